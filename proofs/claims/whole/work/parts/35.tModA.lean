theorem t_Mod_isPack (l1 : Int32) (s : Sg) (R : List AC) : Ct q_Mod_isPack [vr 31, vi l1] s R (f_Mod_isPack l1 s) := by
  refine Ct.of (by decide) rfl (ρ := [some (vr 31), some (vi l1)]) rfl ?_
  unfold f_Mod_isPack
  refine G.iload_n (pc' := 1) d_Mod_isPack_0 rfl rfl ?_
  refine G.if_lt (pc' := 4) (tgt := 16) d_Mod_isPack_1 rfl (by decide) ?_ ?_
  · refine G.iconst (v := 0) (pc' := 17) d_Mod_isPack_16 rfl kI_0 ?_
    exact G.zretK (by decide) d_Mod_isPack_17 rfl ⟨Nat.le_refl _, Nat.le_refl _⟩
  · refine G.iload_n (pc' := 5) d_Mod_isPack_4 rfl rfl ?_
    refine G.aload_n (pc' := 6) d_Mod_isPack_5 rfl rfl ?_
    refine G.get (pc' := 9) d_Mod_isPack_6 rfl fg_Mod_105 (HX_31 _ _) rfl ?_
    refine G.icmp_ge (pc' := 12) (tgt := 16) d_Mod_isPack_9 rfl (by decide) ?_ ?_
    · refine G.iconst (v := 0) (pc' := 17) d_Mod_isPack_16 rfl kI_0 ?_
      exact G.zretK (by decide) d_Mod_isPack_17 rfl ⟨Nat.le_refl _, Nat.le_refl _⟩
    · refine G.iconst (v := 1) (pc' := 13) d_Mod_isPack_12 rfl kI_1 ?_
      refine G.goto (tgt := 17) d_Mod_isPack_13 (by decide) ?_
      exact G.zretK (by decide) d_Mod_isPack_17 rfl ⟨Nat.le_refl _, Nat.le_refl _⟩
theorem t_Mod_isUser (l1 : Int32) (s : Sg) (R : List AC) : Ct q_Mod_isUser [vr 31, vi l1] s R (f_Mod_isUser l1 s) := by
  refine Ct.of (by decide) rfl (ρ := [some (vr 31), some (vi l1)]) rfl ?_
  unfold f_Mod_isUser
  refine G.iload_n (pc' := 1) d_Mod_isUser_0 rfl rfl ?_
  refine G.if_lt (pc' := 4) (tgt := 16) d_Mod_isUser_1 rfl (by decide) ?_ ?_
  · refine G.iconst (v := 0) (pc' := 17) d_Mod_isUser_16 rfl kI_0 ?_
    exact G.zretK (by decide) d_Mod_isUser_17 rfl ⟨Nat.le_refl _, Nat.le_refl _⟩
  · refine G.iload_n (pc' := 5) d_Mod_isUser_4 rfl rfl ?_
    refine G.aload_n (pc' := 6) d_Mod_isUser_5 rfl rfl ?_
    refine G.get (pc' := 9) d_Mod_isUser_6 rfl fg_Mod_108 (HX_31 _ _) rfl ?_
    refine G.icmp_ge (pc' := 12) (tgt := 16) d_Mod_isUser_9 rfl (by decide) ?_ ?_
    · refine G.iconst (v := 0) (pc' := 17) d_Mod_isUser_16 rfl kI_0 ?_
      exact G.zretK (by decide) d_Mod_isUser_17 rfl ⟨Nat.le_refl _, Nat.le_refl _⟩
    · refine G.iconst (v := 1) (pc' := 13) d_Mod_isUser_12 rfl kI_1 ?_
      refine G.goto (tgt := 17) d_Mod_isUser_13 (by decide) ?_
      exact G.zretK (by decide) d_Mod_isUser_17 rfl ⟨Nat.le_refl _, Nat.le_refl _⟩
theorem t_Mod_isFeature (l1 : Int32) (s : Sg) (R : List AC) : Ct q_Mod_isFeature [vr 31, vi l1] s R (f_Mod_isFeature l1 s) := by
  refine Ct.of (by decide) rfl (ρ := [some (vr 31), some (vi l1)]) rfl ?_
  unfold f_Mod_isFeature
  refine G.iload_n (pc' := 1) d_Mod_isFeature_0 rfl rfl ?_
  refine G.if_lt (pc' := 4) (tgt := 16) d_Mod_isFeature_1 rfl (by decide) ?_ ?_
  · refine G.iconst (v := 0) (pc' := 17) d_Mod_isFeature_16 rfl kI_0 ?_
    exact G.zretK (by decide) d_Mod_isFeature_17 rfl ⟨Nat.le_refl _, Nat.le_refl _⟩
  · refine G.iload_n (pc' := 5) d_Mod_isFeature_4 rfl rfl ?_
    refine G.aload_n (pc' := 6) d_Mod_isFeature_5 rfl rfl ?_
    refine G.get (pc' := 9) d_Mod_isFeature_6 rfl fg_Mod_111 (HX_31 _ _) rfl ?_
    refine G.icmp_ge (pc' := 12) (tgt := 16) d_Mod_isFeature_9 rfl (by decide) ?_ ?_
    · refine G.iconst (v := 0) (pc' := 17) d_Mod_isFeature_16 rfl kI_0 ?_
      exact G.zretK (by decide) d_Mod_isFeature_17 rfl ⟨Nat.le_refl _, Nat.le_refl _⟩
    · refine G.iconst (v := 1) (pc' := 13) d_Mod_isFeature_12 rfl kI_1 ?_
      refine G.goto (tgt := 17) d_Mod_isFeature_13 (by decide) ?_
      exact G.zretK (by decide) d_Mod_isFeature_17 rfl ⟨Nat.le_refl _, Nat.le_refl _⟩
theorem t_Mod_pack (l1 : Int32) (s : Sg) (R : List AC) : Ct q_Mod_pack [vr 31, vi l1] s R (f_Mod_pack l1 s) := by
  refine Ct.of (by decide) rfl (ρ := [some (vr 31), some (vi l1)]) rfl ?_
  unfold f_Mod_pack
  refine G.aload_n (pc' := 1) d_Mod_pack_0 rfl rfl ?_
  refine G.iconst (v := 0) (pc' := 2) d_Mod_pack_1 rfl kI_0 ?_
  refine G.put (s' := wr s 31 0 0) (pc' := 5) d_Mod_pack_2 rfl fp_Mod_102 trivial (HX_31 _ _) rfl (HXf_31_0 _ _ _) ?_
  refine G.aload_n (pc' := 6) d_Mod_pack_5 rfl rfl ?_
  refine G.get (pc' := 9) d_Mod_pack_6 rfl fg_Mod_105 (HX_31 _ _) rfl ?_
  refine G.eqv (w := vi (s 31 1)) rfl ?_
  refine G.bipush (v := 10) (pc' := 11) d_Mod_pack_9 rfl kB_10 ?_
  refine G.icmp_ne (pc' := 14) (tgt := 16) d_Mod_pack_11 rfl (by decide) ?_ ?_
  · refine G.iconst (v := (-1)) (pc' := 15) d_Mod_pack_14 rfl kI_m1 ?_
    exact G.iret d_Mod_pack_15 rfl ⟨Nat.le_refl _, Nat.le_refl _⟩
  · refine G.aload_n (pc' := 17) d_Mod_pack_16 rfl rfl ?_
    refine G.get (pc' := 20) d_Mod_pack_17 rfl fg_Mod_7 (HX_31 _ _) rfl ?_
    refine G.aload_n (pc' := 21) d_Mod_pack_20 rfl rfl ?_
    refine G.get (pc' := 24) d_Mod_pack_21 rfl fg_Mod_105 (HX_31 _ _) rfl ?_
    refine G.eqv (w := vi (s 31 1)) rfl ?_
    refine G.iload_n (pc' := 25) d_Mod_pack_24 rfl rfl ?_
    refine G.zast (s' := wr (wr s 31 0 0) 32 (ix (s 31 1)) l1) (pc' := 26) d_Mod_pack_25 rfl (HX_32 _ _) (HXa_32 _ _ _ _) ?_
    refine G.aload_n (pc' := 27) d_Mod_pack_26 rfl rfl ?_
    refine G.dup (pc' := 28) d_Mod_pack_27 rfl ?_
    refine G.get (pc' := 31) d_Mod_pack_28 rfl fg_Mod_105 (HX_31 _ _) rfl ?_
    refine G.eqv (w := vi (s 31 1)) rfl ?_
    refine G.iconst (v := 1) (pc' := 32) d_Mod_pack_31 rfl kI_1 ?_
    refine G.iadd (pc' := 33) d_Mod_pack_32 rfl ?_
    refine G.put (s' := wr (wr (wr s 31 0 0) 32 (ix (s 31 1)) l1) 31 1 ((s 31 1) + 1)) (pc' := 36) d_Mod_pack_33 rfl fp_Mod_105 trivial (HX_31 _ _) rfl (HXf_31_1 _ _ _) ?_
    refine G.aload_n (pc' := 37) d_Mod_pack_36 rfl rfl ?_
    refine G.iconst (v := 1) (pc' := 38) d_Mod_pack_37 rfl kI_1 ?_
    refine G.put (s' := wr (wr (wr (wr s 31 0 0) 32 (ix (s 31 1)) l1) 31 1 ((s 31 1) + 1)) 31 33 1) (pc' := 41) d_Mod_pack_38 rfl fp_Mod_114 (Or.inr rfl) (HX_31 _ _) rfl (HXf_31_33 _ _ _) ?_
    refine G.aload_n (pc' := 42) d_Mod_pack_41 rfl rfl ?_
    refine G.get (pc' := 45) d_Mod_pack_42 rfl fg_Mod_105 (HX_31 _ _) rfl ?_
    refine G.eqv (w := vi ((s 31 1) + 1)) rfl ?_
    refine G.iconst (v := 1) (pc' := 46) d_Mod_pack_45 rfl kI_1 ?_
    refine G.isub (pc' := 47) d_Mod_pack_46 rfl ?_
    exact G.iret d_Mod_pack_47 rfl ⟨Nat.le_refl _, Nat.le_refl _⟩
theorem t_Mod_named_5 {R : List AC}  (l1 l2 : Int32) : ∀ (l3 l4 : Int32) (s : Sg), Gd q_Mod_named none 5 [some (vr 31), some (vi l1), some (vi l2), some (vi l3), some (vi l4)] [] s R 0 0 (f_Mod_named_5 l1 l2 l3 l4 s) := by
  intro l3 l4 s
  unfold f_Mod_named_5
  refine G.loop2 (rf := fun l3 l4 => [some (vr 31), some (vi l1), some (vi l2), some (vi l3), some (vi l4)]) ?_ 4096 l3 l4 s
  intro rec5 hrec5 l3 l4 s
  refine G.iload (pc' := 7) d_Mod_named_5 rfl rfl ?_
  refine G.aload_n (pc' := 8) d_Mod_named_7 rfl rfl ?_
  refine G.get (pc' := 11) d_Mod_named_8 rfl fg_Mod_111 (HX_31 _ _) rfl ?_
  refine G.icmp_ge (pc' := 14) (tgt := 49) d_Mod_named_11 rfl (by decide) ?_ ?_
  · refine G.iload_n (pc' := 50) d_Mod_named_49 rfl rfl ?_
    exact G.iret d_Mod_named_50 rfl ⟨Nat.le_refl _, Nat.le_refl _⟩
  · refine G.aload_n (pc' := 15) d_Mod_named_14 rfl rfl ?_
    refine G.get (pc' := 18) d_Mod_named_15 rfl fg_Mod_19 (HX_31 _ _) rfl ?_
    refine G.iload (pc' := 20) d_Mod_named_18 rfl rfl ?_
    refine G.iald (pc' := 21) d_Mod_named_20 rfl (HX_35 _ _) ?_
    refine G.iload_n (pc' := 22) d_Mod_named_21 rfl rfl ?_
    refine G.icmp_ne (pc' := 25) (tgt := 41) d_Mod_named_22 rfl (by decide) ?_ ?_
    · refine G.aload_n (pc' := 26) d_Mod_named_25 rfl rfl ?_
      refine G.get (pc' := 29) d_Mod_named_26 rfl fg_Mod_23 (HX_31 _ _) rfl ?_
      refine G.iload (pc' := 31) d_Mod_named_29 rfl rfl ?_
      refine G.iald (pc' := 32) d_Mod_named_31 rfl (HX_36 _ _) ?_
      refine G.iload_n (pc' := 33) d_Mod_named_32 rfl rfl ?_
      refine G.icmp_ne (pc' := 36) (tgt := 41) d_Mod_named_33 rfl (by decide) ?_ ?_
      · refine G.iload (pc' := 38) d_Mod_named_36 rfl rfl ?_
        refine G.goto (tgt := 42) d_Mod_named_38 (by decide) ?_
        refine G.istore_n (ρ' := [some (vr 31), some (vi l1), some (vi l2), some (vi l4), some (vi l4)]) (pc' := 43) d_Mod_named_42 rfl (by decide) rfl ?_
        refine G.iinc (w := 1) (v := l4 + 1) (ρ' := [some (vr 31), some (vi l1), some (vi l2), some (vi l4), some (vi (l4 + 1))]) (pc' := 46) d_Mod_named_43 rfl rfl (by decide) kI_1 rfl rfl ?_
        refine G.goto (tgt := 5) d_Mod_named_46 (by decide) ?_
        exact hrec5 l4 (l4 + 1) s
      · refine G.iload_n (pc' := 42) d_Mod_named_41 rfl rfl ?_
        refine G.istore_n (ρ' := [some (vr 31), some (vi l1), some (vi l2), some (vi l3), some (vi l4)]) (pc' := 43) d_Mod_named_42 rfl (by decide) rfl ?_
        refine G.iinc (w := 1) (v := l4 + 1) (ρ' := [some (vr 31), some (vi l1), some (vi l2), some (vi l3), some (vi (l4 + 1))]) (pc' := 46) d_Mod_named_43 rfl rfl (by decide) kI_1 rfl rfl ?_
        refine G.goto (tgt := 5) d_Mod_named_46 (by decide) ?_
        exact hrec5 l3 (l4 + 1) s
    · refine G.iload_n (pc' := 42) d_Mod_named_41 rfl rfl ?_
      refine G.istore_n (ρ' := [some (vr 31), some (vi l1), some (vi l2), some (vi l3), some (vi l4)]) (pc' := 43) d_Mod_named_42 rfl (by decide) rfl ?_
      refine G.iinc (w := 1) (v := l4 + 1) (ρ' := [some (vr 31), some (vi l1), some (vi l2), some (vi l3), some (vi (l4 + 1))]) (pc' := 46) d_Mod_named_43 rfl rfl (by decide) kI_1 rfl rfl ?_
      refine G.goto (tgt := 5) d_Mod_named_46 (by decide) ?_
      exact hrec5 l3 (l4 + 1) s
theorem t_Mod_named (l1 l2 : Int32) (s : Sg) (R : List AC) : Ct q_Mod_named [vr 31, vi l1, vi l2] s R (f_Mod_named l1 l2 s) := by
  refine Ct.of (by decide) rfl (ρ := [some (vr 31), some (vi l1), some (vi l2), none, none]) rfl ?_
  unfold f_Mod_named
  refine G.iconst (v := (-1)) (pc' := 1) d_Mod_named_0 rfl kI_m1 ?_
  refine G.istore_n (ρ' := [some (vr 31), some (vi l1), some (vi l2), some (vi (-1)), none]) (pc' := 2) d_Mod_named_1 rfl (by decide) rfl ?_
  refine G.iconst (v := 0) (pc' := 3) d_Mod_named_2 rfl kI_0 ?_
  refine G.istore (ρ' := [some (vr 31), some (vi l1), some (vi l2), some (vi (-1)), some (vi 0)]) (pc' := 5) d_Mod_named_3 rfl (by decide) rfl ?_
  exact t_Mod_named_5 l1 l2 (-1) 0 s
theorem t_Mod_many_4 {R : List AC}  (l1 : Int32) : ∀ (l2 l3 : Int32) (s : Sg), Gd q_Mod_many none 4 [some (vr 31), some (vi l1), some (vi l2), some (vi l3)] [] s R 0 0 (f_Mod_many_4 l1 l2 l3 s) := by
  intro l2 l3 s
  unfold f_Mod_many_4
  refine G.loop2 (rf := fun l2 l3 => [some (vr 31), some (vi l1), some (vi l2), some (vi l3)]) ?_ 4096 l2 l3 s
  intro rec4 hrec4 l2 l3 s
  refine G.iload_n (pc' := 5) d_Mod_many_4 rfl rfl ?_
  refine G.aload_n (pc' := 6) d_Mod_many_5 rfl rfl ?_
  refine G.get (pc' := 9) d_Mod_many_6 rfl fg_Mod_111 (HX_31 _ _) rfl ?_
  refine G.icmp_ge (pc' := 12) (tgt := 36) d_Mod_many_9 rfl (by decide) ?_ ?_
  · refine G.iload_n (pc' := 37) d_Mod_many_36 rfl rfl ?_
    exact G.iret d_Mod_many_37 rfl ⟨Nat.le_refl _, Nat.le_refl _⟩
  · refine G.iload_n (pc' := 13) d_Mod_many_12 rfl rfl ?_
    refine G.aload_n (pc' := 14) d_Mod_many_13 rfl rfl ?_
    refine G.get (pc' := 17) d_Mod_many_14 rfl fg_Mod_19 (HX_31 _ _) rfl ?_
    refine G.iload_n (pc' := 18) d_Mod_many_17 rfl rfl ?_
    refine G.iald (pc' := 19) d_Mod_many_18 rfl (HX_35 _ _) ?_
    refine G.iload_n (pc' := 20) d_Mod_many_19 rfl rfl ?_
    refine G.icmp_ne (pc' := 23) (tgt := 27) d_Mod_many_20 rfl (by decide) ?_ ?_
    · refine G.iconst (v := 1) (pc' := 24) d_Mod_many_23 rfl kI_1 ?_
      refine G.goto (tgt := 28) d_Mod_many_24 (by decide) ?_
      refine G.iadd (pc' := 29) d_Mod_many_28 rfl ?_
      refine G.istore_n (ρ' := [some (vr 31), some (vi l1), some (vi (l2 + 1)), some (vi l3)]) (pc' := 30) d_Mod_many_29 rfl (by decide) rfl ?_
      refine G.iinc (w := 1) (v := l3 + 1) (ρ' := [some (vr 31), some (vi l1), some (vi (l2 + 1)), some (vi (l3 + 1))]) (pc' := 33) d_Mod_many_30 rfl rfl (by decide) kI_1 rfl rfl ?_
      refine G.goto (tgt := 4) d_Mod_many_33 (by decide) ?_
      exact hrec4 (l2 + 1) (l3 + 1) s
    · refine G.iconst (v := 0) (pc' := 28) d_Mod_many_27 rfl kI_0 ?_
      refine G.iadd (pc' := 29) d_Mod_many_28 rfl ?_
      refine G.istore_n (ρ' := [some (vr 31), some (vi l1), some (vi (l2 + 0)), some (vi l3)]) (pc' := 30) d_Mod_many_29 rfl (by decide) rfl ?_
      refine G.iinc (w := 1) (v := l3 + 1) (ρ' := [some (vr 31), some (vi l1), some (vi (l2 + 0)), some (vi (l3 + 1))]) (pc' := 33) d_Mod_many_30 rfl rfl (by decide) kI_1 rfl rfl ?_
      refine G.goto (tgt := 4) d_Mod_many_33 (by decide) ?_
      exact hrec4 (l2 + 0) (l3 + 1) s
theorem t_Mod_many (l1 : Int32) (s : Sg) (R : List AC) : Ct q_Mod_many [vr 31, vi l1] s R (f_Mod_many l1 s) := by
  refine Ct.of (by decide) rfl (ρ := [some (vr 31), some (vi l1), none, none]) rfl ?_
  unfold f_Mod_many
  refine G.iconst (v := 0) (pc' := 1) d_Mod_many_0 rfl kI_0 ?_
  refine G.istore_n (ρ' := [some (vr 31), some (vi l1), some (vi 0), none]) (pc' := 2) d_Mod_many_1 rfl (by decide) rfl ?_
  refine G.iconst (v := 0) (pc' := 3) d_Mod_many_2 rfl kI_0 ?_
  refine G.istore_n (ρ' := [some (vr 31), some (vi l1), some (vi 0), some (vi 0)]) (pc' := 4) d_Mod_many_3 rfl (by decide) rfl ?_
  exact t_Mod_many_4 l1 0 0 s
theorem t_Mod_feature (l1 l2 l3 l4 : Int32) (s : Sg) (R : List AC) : Ct q_Mod_feature [vr 31, vi l1, vi l2, vi l3, vi l4] s R (f_Mod_feature l1 l2 l3 l4 s) := by
  refine Ct.of (by decide) rfl (ρ := [some (vr 31), some (vi l1), some (vi l2), some (vi l3), some (vi l4)]) rfl ?_
  unfold f_Mod_feature
  refine G.aload_n (pc' := 1) d_Mod_feature_0 rfl rfl ?_
  refine G.iconst (v := 0) (pc' := 2) d_Mod_feature_1 rfl kI_0 ?_
  refine G.put (s' := wr s 31 0 0) (pc' := 5) d_Mod_feature_2 rfl fp_Mod_102 trivial (HX_31 _ _) rfl (HXf_31_0 _ _ _) ?_
  refine G.aload_n (pc' := 6) d_Mod_feature_5 rfl rfl ?_
  refine G.iload_n (pc' := 7) d_Mod_feature_6 rfl rfl ?_
  refine G.callVi (As := [vi l1]) (n := 1) (i := 31) (ci := 8) (st := []) (t_Mod_isPack l1 (wr s 31 0 0) _) (pc' := 10) d_Mod_feature_7 rfl lm_Mod_118 mk_Mod_isPack mv_Mod_isPack ⟨rfl, rfl⟩ ⟨by decide, by decide⟩ (HX_31 _ _) rfl rfl rfl rfl ⟨Nat.le_refl _, Nat.le_refl _⟩ rfl (fun v1 s1 => ?_)
  refine G.if_eq (pc' := 13) (tgt := 64) d_Mod_feature_10 rfl (by decide) ?_ ?_
  · refine G.iconst (v := (-1)) (pc' := 65) d_Mod_feature_64 rfl kI_m1 ?_
    exact G.iret d_Mod_feature_65 rfl ⟨Nat.le_refl _, Nat.le_refl _⟩
  · refine G.iload_n (pc' := 14) d_Mod_feature_13 rfl rfl ?_
    refine G.if_lt (pc' := 17) (tgt := 64) d_Mod_feature_14 rfl (by decide) ?_ ?_
    · refine G.iconst (v := (-1)) (pc' := 65) d_Mod_feature_64 rfl kI_m1 ?_
      exact G.iret d_Mod_feature_65 rfl ⟨Nat.le_refl _, Nat.le_refl _⟩
    · refine G.iload_n (pc' := 18) d_Mod_feature_17 rfl rfl ?_
      refine G.bipush (v := 32) (pc' := 20) d_Mod_feature_18 rfl kB_32 ?_
      refine G.icmp_ge (pc' := 23) (tgt := 64) d_Mod_feature_20 rfl (by decide) ?_ ?_
      · refine G.iconst (v := (-1)) (pc' := 65) d_Mod_feature_64 rfl kI_m1 ?_
        exact G.iret d_Mod_feature_65 rfl ⟨Nat.le_refl _, Nat.le_refl _⟩
      · refine G.iload (pc' := 25) d_Mod_feature_23 rfl rfl ?_
        refine G.if_lt (pc' := 28) (tgt := 64) d_Mod_feature_25 rfl (by decide) ?_ ?_
        · refine G.iconst (v := (-1)) (pc' := 65) d_Mod_feature_64 rfl kI_m1 ?_
          exact G.iret d_Mod_feature_65 rfl ⟨Nat.le_refl _, Nat.le_refl _⟩
        · refine G.iload (pc' := 30) d_Mod_feature_28 rfl rfl ?_
          refine G.bipush (v := 8) (pc' := 32) d_Mod_feature_30 rfl kB_8 ?_
          refine G.icmp_ge (pc' := 35) (tgt := 64) d_Mod_feature_32 rfl (by decide) ?_ ?_
          · refine G.iconst (v := (-1)) (pc' := 65) d_Mod_feature_64 rfl kI_m1 ?_
            exact G.iret d_Mod_feature_65 rfl ⟨Nat.le_refl _, Nat.le_refl _⟩
          · refine G.aload_n (pc' := 36) d_Mod_feature_35 rfl rfl ?_
            refine G.get (pc' := 39) d_Mod_feature_36 rfl fg_Mod_111 (HX_31 _ _) rfl ?_
            refine G.bipush (v := 60) (pc' := 41) d_Mod_feature_39 rfl kB_60 ?_
            refine G.icmp_eq (pc' := 44) (tgt := 64) d_Mod_feature_41 rfl (by decide) ?_ ?_
            · refine G.iconst (v := (-1)) (pc' := 65) d_Mod_feature_64 rfl kI_m1 ?_
              exact G.iret d_Mod_feature_65 rfl ⟨Nat.le_refl _, Nat.le_refl _⟩
            · refine G.aload_n (pc' := 45) d_Mod_feature_44 rfl rfl ?_
              refine G.iload_n (pc' := 46) d_Mod_feature_45 rfl rfl ?_
              refine G.callVi (As := [vi l1]) (n := 1) (i := 31) (ci := 8) (st := []) (t_Mod_many l1 s1 _) (pc' := 49) d_Mod_feature_46 rfl lm_Mod_122 mk_Mod_many mv_Mod_many ⟨rfl, rfl⟩ ⟨by decide, by decide⟩ (HX_31 _ _) rfl rfl rfl rfl ⟨Nat.le_refl _, Nat.le_refl _⟩ rfl (fun v2 s2 => ?_)
              refine G.bipush (v := 10) (pc' := 51) d_Mod_feature_49 rfl kB_10 ?_
              refine G.icmp_eq (pc' := 54) (tgt := 64) d_Mod_feature_51 rfl (by decide) ?_ ?_
              · refine G.iconst (v := (-1)) (pc' := 65) d_Mod_feature_64 rfl kI_m1 ?_
                exact G.iret d_Mod_feature_65 rfl ⟨Nat.le_refl _, Nat.le_refl _⟩
              · refine G.aload_n (pc' := 55) d_Mod_feature_54 rfl rfl ?_
                refine G.iload_n (pc' := 56) d_Mod_feature_55 rfl rfl ?_
                refine G.iload_n (pc' := 57) d_Mod_feature_56 rfl rfl ?_
                refine G.callVi (As := [vi l1, vi l2]) (n := 2) (i := 31) (ci := 8) (st := []) (t_Mod_named l1 l2 s2 _) (pc' := 60) d_Mod_feature_57 rfl lm_Mod_126 mk_Mod_named mv_Mod_named ⟨rfl, rfl⟩ ⟨by decide, by decide⟩ (HX_31 _ _) rfl rfl rfl rfl ⟨Nat.le_refl _, Nat.le_refl _⟩ rfl (fun v3 s3 => ?_)
                refine G.iconst (v := (-1)) (pc' := 61) d_Mod_feature_60 rfl kI_m1 ?_
                refine G.icmp_eq (pc' := 64) (tgt := 66) d_Mod_feature_61 rfl (by decide) ?_ ?_
                · refine G.aload_n (pc' := 67) d_Mod_feature_66 rfl rfl ?_
                  refine G.get (pc' := 70) d_Mod_feature_67 rfl fg_Mod_19 (HX_31 _ _) rfl ?_
                  refine G.aload_n (pc' := 71) d_Mod_feature_70 rfl rfl ?_
                  refine G.get (pc' := 74) d_Mod_feature_71 rfl fg_Mod_111 (HX_31 _ _) rfl ?_
                  refine G.iload_n (pc' := 75) d_Mod_feature_74 rfl rfl ?_
                  refine G.iast (s' := wr s3 35 (ix (s3 31 2)) l1) (pc' := 76) d_Mod_feature_75 rfl (HX_35 _ _) (HXa_35 _ _ _ _) ?_
                  refine G.aload_n (pc' := 77) d_Mod_feature_76 rfl rfl ?_
                  refine G.get (pc' := 80) d_Mod_feature_77 rfl fg_Mod_23 (HX_31 _ _) rfl ?_
                  refine G.aload_n (pc' := 81) d_Mod_feature_80 rfl rfl ?_
                  refine G.get (pc' := 84) d_Mod_feature_81 rfl fg_Mod_111 (HX_31 _ _) rfl ?_
                  refine G.eqv (w := vi (s3 31 2)) rfl ?_
                  refine G.iload_n (pc' := 85) d_Mod_feature_84 rfl rfl ?_
                  refine G.iast (s' := wr (wr s3 35 (ix (s3 31 2)) l1) 36 (ix (s3 31 2)) l2) (pc' := 86) d_Mod_feature_85 rfl (HX_36 _ _) (HXa_36 _ _ _ _) ?_
                  refine G.aload_n (pc' := 87) d_Mod_feature_86 rfl rfl ?_
                  refine G.get (pc' := 90) d_Mod_feature_87 rfl fg_Mod_26 (HX_31 _ _) rfl ?_
                  refine G.aload_n (pc' := 91) d_Mod_feature_90 rfl rfl ?_
                  refine G.get (pc' := 94) d_Mod_feature_91 rfl fg_Mod_111 (HX_31 _ _) rfl ?_
                  refine G.eqv (w := vi (s3 31 2)) rfl ?_
                  refine G.iload (pc' := 96) d_Mod_feature_94 rfl rfl ?_
                  refine G.iast (s' := wr (wr (wr s3 35 (ix (s3 31 2)) l1) 36 (ix (s3 31 2)) l2) 37 (ix (s3 31 2)) l4) (pc' := 97) d_Mod_feature_96 rfl (HX_37 _ _) (HXa_37 _ _ _ _) ?_
                  refine G.aload_n (pc' := 98) d_Mod_feature_97 rfl rfl ?_
                  refine G.get (pc' := 101) d_Mod_feature_98 rfl fg_Mod_29 (HX_31 _ _) rfl ?_
                  refine G.aload_n (pc' := 102) d_Mod_feature_101 rfl rfl ?_
                  refine G.get (pc' := 105) d_Mod_feature_102 rfl fg_Mod_111 (HX_31 _ _) rfl ?_
                  refine G.eqv (w := vi (s3 31 2)) rfl ?_
                  refine G.iload_n (pc' := 106) d_Mod_feature_105 rfl rfl ?_
                  refine G.zast (s' := wr (wr (wr (wr s3 35 (ix (s3 31 2)) l1) 36 (ix (s3 31 2)) l2) 37 (ix (s3 31 2)) l4) 38 (ix (s3 31 2)) l3) (pc' := 107) d_Mod_feature_106 rfl (HX_38 _ _) (HXa_38 _ _ _ _) ?_
                  refine G.aload_n (pc' := 108) d_Mod_feature_107 rfl rfl ?_
                  refine G.dup (pc' := 109) d_Mod_feature_108 rfl ?_
                  refine G.get (pc' := 112) d_Mod_feature_109 rfl fg_Mod_111 (HX_31 _ _) rfl ?_
                  refine G.eqv (w := vi (s3 31 2)) rfl ?_
                  refine G.iconst (v := 1) (pc' := 113) d_Mod_feature_112 rfl kI_1 ?_
                  refine G.iadd (pc' := 114) d_Mod_feature_113 rfl ?_
                  refine G.put (s' := wr (wr (wr (wr (wr s3 35 (ix (s3 31 2)) l1) 36 (ix (s3 31 2)) l2) 37 (ix (s3 31 2)) l4) 38 (ix (s3 31 2)) l3) 31 2 ((s3 31 2) + 1)) (pc' := 117) d_Mod_feature_114 rfl fp_Mod_111 trivial (HX_31 _ _) rfl (HXf_31_2 _ _ _) ?_
                  refine G.aload_n (pc' := 118) d_Mod_feature_117 rfl rfl ?_
                  refine G.iconst (v := 1) (pc' := 119) d_Mod_feature_118 rfl kI_1 ?_
                  refine G.put (s' := wr (wr (wr (wr (wr (wr s3 35 (ix (s3 31 2)) l1) 36 (ix (s3 31 2)) l2) 37 (ix (s3 31 2)) l4) 38 (ix (s3 31 2)) l3) 31 2 ((s3 31 2) + 1)) 31 33 1) (pc' := 122) d_Mod_feature_119 rfl fp_Mod_114 (Or.inr rfl) (HX_31 _ _) rfl (HXf_31_33 _ _ _) ?_
                  refine G.aload_n (pc' := 123) d_Mod_feature_122 rfl rfl ?_
                  refine G.get (pc' := 126) d_Mod_feature_123 rfl fg_Mod_111 (HX_31 _ _) rfl ?_
                  refine G.eqv (w := vi ((s3 31 2) + 1)) rfl ?_
                  refine G.iconst (v := 1) (pc' := 127) d_Mod_feature_126 rfl kI_1 ?_
                  refine G.isub (pc' := 128) d_Mod_feature_127 rfl ?_
                  exact G.iret d_Mod_feature_128 rfl ⟨Nat.le_refl _, Nat.le_refl _⟩
                · refine G.iconst (v := (-1)) (pc' := 65) d_Mod_feature_64 rfl kI_m1 ?_
                  exact G.iret d_Mod_feature_65 rfl ⟨Nat.le_refl _, Nat.le_refl _⟩
theorem t_Mod_root (l1 l2 : Int32) (s : Sg) (R : List AC) : Ct q_Mod_root [vr 31, vi l1, vi l2] s R (f_Mod_root l1 l2 s) := by
  refine Ct.of (by decide) rfl (ρ := [some (vr 31), some (vi l1), some (vi l2)]) rfl ?_
  unfold f_Mod_root
  refine G.aload_n (pc' := 1) d_Mod_root_0 rfl rfl ?_
  refine G.iconst (v := 0) (pc' := 2) d_Mod_root_1 rfl kI_0 ?_
  refine G.put (s' := wr s 31 0 0) (pc' := 5) d_Mod_root_2 rfl fp_Mod_102 trivial (HX_31 _ _) rfl (HXf_31_0 _ _ _) ?_
  refine G.aload_n (pc' := 6) d_Mod_root_5 rfl rfl ?_
  refine G.iload_n (pc' := 7) d_Mod_root_6 rfl rfl ?_
  refine G.callVi (As := [vi l1]) (n := 1) (i := 31) (ci := 8) (st := []) (t_Mod_isPack l1 (wr s 31 0 0) _) (pc' := 10) d_Mod_root_7 rfl lm_Mod_118 mk_Mod_isPack mv_Mod_isPack ⟨rfl, rfl⟩ ⟨by decide, by decide⟩ (HX_31 _ _) rfl rfl rfl rfl ⟨Nat.le_refl _, Nat.le_refl _⟩ rfl (fun v1 s1 => ?_)
  refine G.if_eq (pc' := 13) (tgt := 22) d_Mod_root_10 rfl (by decide) ?_ ?_
  · refine G.iconst (v := 0) (pc' := 23) d_Mod_root_22 rfl kI_0 ?_
    exact G.zretK (by decide) d_Mod_root_23 rfl ⟨Nat.le_refl _, Nat.le_refl _⟩
  · refine G.aload_n (pc' := 14) d_Mod_root_13 rfl rfl ?_
    refine G.get (pc' := 17) d_Mod_root_14 rfl fg_Mod_13 (HX_31 _ _) rfl ?_
    refine G.iload_n (pc' := 18) d_Mod_root_17 rfl rfl ?_
    refine G.zald (pc' := 19) d_Mod_root_18 rfl (HX_33 _ _) ?_
    refine G.if_eq (pc' := 22) (tgt := 24) d_Mod_root_19 rfl (by decide) ?_ ?_
    · refine G.aload_n (pc' := 25) d_Mod_root_24 rfl rfl ?_
      refine G.get (pc' := 28) d_Mod_root_25 rfl fg_Mod_13 (HX_31 _ _) rfl ?_
      refine G.iload_n (pc' := 29) d_Mod_root_28 rfl rfl ?_
      refine G.iconst (v := 1) (pc' := 30) d_Mod_root_29 rfl kI_1 ?_
      refine G.zast (s' := wr s1 33 (ix l1) 1) (pc' := 31) d_Mod_root_30 rfl (HX_33 _ _) (HXa_33 _ _ _ _) ?_
      refine G.aload_n (pc' := 32) d_Mod_root_31 rfl rfl ?_
      refine G.get (pc' := 35) d_Mod_root_32 rfl fg_Mod_16 (HX_31 _ _) rfl ?_
      refine G.iload_n (pc' := 36) d_Mod_root_35 rfl rfl ?_
      refine G.iload_n (pc' := 37) d_Mod_root_36 rfl rfl ?_
      refine G.zast (s' := wr (wr s1 33 (ix l1) 1) 34 (ix l1) l2) (pc' := 38) d_Mod_root_37 rfl (HX_34 _ _) (HXa_34 _ _ _ _) ?_
      refine G.aload_n (pc' := 39) d_Mod_root_38 rfl rfl ?_
      refine G.iconst (v := 1) (pc' := 40) d_Mod_root_39 rfl kI_1 ?_
      refine G.put (s' := wr (wr (wr s1 33 (ix l1) 1) 34 (ix l1) l2) 31 33 1) (pc' := 43) d_Mod_root_40 rfl fp_Mod_114 (Or.inr rfl) (HX_31 _ _) rfl (HXf_31_33 _ _ _) ?_
      refine G.iconst (v := 1) (pc' := 44) d_Mod_root_43 rfl kI_1 ?_
      exact G.zretK (by decide) d_Mod_root_44 rfl ⟨Nat.le_refl _, Nat.le_refl _⟩
    · refine G.iconst (v := 0) (pc' := 23) d_Mod_root_22 rfl kI_0 ?_
      exact G.zretK (by decide) d_Mod_root_23 rfl ⟨Nat.le_refl _, Nat.le_refl _⟩
theorem t_Mod_user (l1 l2 l3 l4 l5 l6 : Int32) (s : Sg) (R : List AC) : Ct q_Mod_user [vr 31, vi l1, vi l2, vi l3, vi l4, vi l5, vi l6] s R (f_Mod_user l1 l2 l3 l4 l5 l6 s) := by
  refine Ct.of (by decide) rfl (ρ := [some (vr 31), some (vi l1), some (vi l2), some (vi l3), some (vi l4), some (vi l5), some (vi l6)]) rfl ?_
  unfold f_Mod_user
  refine G.aload_n (pc' := 1) d_Mod_user_0 rfl rfl ?_
  refine G.iconst (v := 0) (pc' := 2) d_Mod_user_1 rfl kI_0 ?_
  refine G.put (s' := wr s 31 0 0) (pc' := 5) d_Mod_user_2 rfl fp_Mod_102 trivial (HX_31 _ _) rfl (HXf_31_0 _ _ _) ?_
  refine G.aload_n (pc' := 6) d_Mod_user_5 rfl rfl ?_
  refine G.iload_n (pc' := 7) d_Mod_user_6 rfl rfl ?_
  refine G.callVi (As := [vi l1]) (n := 1) (i := 31) (ci := 8) (st := []) (t_Mod_isPack l1 (wr s 31 0 0) _) (pc' := 10) d_Mod_user_7 rfl lm_Mod_118 mk_Mod_isPack mv_Mod_isPack ⟨rfl, rfl⟩ ⟨by decide, by decide⟩ (HX_31 _ _) rfl rfl rfl rfl ⟨Nat.le_refl _, Nat.le_refl _⟩ rfl (fun v1 s1 => ?_)
  refine G.if_eq (pc' := 13) (tgt := 30) d_Mod_user_10 rfl (by decide) ?_ ?_
  · refine G.iconst (v := (-1)) (pc' := 31) d_Mod_user_30 rfl kI_m1 ?_
    exact G.iret d_Mod_user_31 rfl ⟨Nat.le_refl _, Nat.le_refl _⟩
  · refine G.aload_n (pc' := 14) d_Mod_user_13 rfl rfl ?_
    refine G.iload_n (pc' := 15) d_Mod_user_14 rfl rfl ?_
    refine G.callVi (As := [vi l2]) (n := 1) (i := 31) (ci := 8) (st := []) (t_Mod_isPack l2 s1 _) (pc' := 18) d_Mod_user_15 rfl lm_Mod_118 mk_Mod_isPack mv_Mod_isPack ⟨rfl, rfl⟩ ⟨by decide, by decide⟩ (HX_31 _ _) rfl rfl rfl rfl ⟨Nat.le_refl _, Nat.le_refl _⟩ rfl (fun v2 s2 => ?_)
    refine G.if_eq (pc' := 21) (tgt := 30) d_Mod_user_18 rfl (by decide) ?_ ?_
    · refine G.iconst (v := (-1)) (pc' := 31) d_Mod_user_30 rfl kI_m1 ?_
      exact G.iret d_Mod_user_31 rfl ⟨Nat.le_refl _, Nat.le_refl _⟩
    · refine G.aload_n (pc' := 22) d_Mod_user_21 rfl rfl ?_
      refine G.get (pc' := 25) d_Mod_user_22 rfl fg_Mod_108 (HX_31 _ _) rfl ?_
      refine G.bipush (v := 40) (pc' := 27) d_Mod_user_25 rfl kB_40 ?_
      refine G.icmp_ne (pc' := 30) (tgt := 32) d_Mod_user_27 rfl (by decide) ?_ ?_
      · refine G.iconst (v := (-1)) (pc' := 31) d_Mod_user_30 rfl kI_m1 ?_
        exact G.iret d_Mod_user_31 rfl ⟨Nat.le_refl _, Nat.le_refl _⟩
      · refine G.aload_n (pc' := 33) d_Mod_user_32 rfl rfl ?_
        refine G.get (pc' := 36) d_Mod_user_33 rfl fg_Mod_32 (HX_31 _ _) rfl ?_
        refine G.aload_n (pc' := 37) d_Mod_user_36 rfl rfl ?_
        refine G.get (pc' := 40) d_Mod_user_37 rfl fg_Mod_108 (HX_31 _ _) rfl ?_
        refine G.iload_n (pc' := 41) d_Mod_user_40 rfl rfl ?_
        refine G.iast (s' := wr s2 39 (ix (s2 31 3)) l1) (pc' := 42) d_Mod_user_41 rfl (HX_39 _ _) (HXa_39 _ _ _ _) ?_
        refine G.aload_n (pc' := 43) d_Mod_user_42 rfl rfl ?_
        refine G.get (pc' := 46) d_Mod_user_43 rfl fg_Mod_35 (HX_31 _ _) rfl ?_
        refine G.aload_n (pc' := 47) d_Mod_user_46 rfl rfl ?_
        refine G.get (pc' := 50) d_Mod_user_47 rfl fg_Mod_108 (HX_31 _ _) rfl ?_
        refine G.eqv (w := vi (s2 31 3)) rfl ?_
        refine G.iload_n (pc' := 51) d_Mod_user_50 rfl rfl ?_
        refine G.iast (s' := wr (wr s2 39 (ix (s2 31 3)) l1) 40 (ix (s2 31 3)) l2) (pc' := 52) d_Mod_user_51 rfl (HX_40 _ _) (HXa_40 _ _ _ _) ?_
        refine G.aload_n (pc' := 53) d_Mod_user_52 rfl rfl ?_
        refine G.get (pc' := 56) d_Mod_user_53 rfl fg_Mod_41 (HX_31 _ _) rfl ?_
        refine G.aload_n (pc' := 57) d_Mod_user_56 rfl rfl ?_
        refine G.get (pc' := 60) d_Mod_user_57 rfl fg_Mod_108 (HX_31 _ _) rfl ?_
        refine G.eqv (w := vi (s2 31 3)) rfl ?_
        refine G.iload_n (pc' := 61) d_Mod_user_60 rfl rfl ?_
        refine G.zast (s' := wr (wr (wr s2 39 (ix (s2 31 3)) l1) 40 (ix (s2 31 3)) l2) 42 (ix (s2 31 3)) l3) (pc' := 62) d_Mod_user_61 rfl (HX_42 _ _) (HXa_42 _ _ _ _) ?_
        refine G.aload_n (pc' := 63) d_Mod_user_62 rfl rfl ?_
        refine G.get (pc' := 66) d_Mod_user_63 rfl fg_Mod_44 (HX_31 _ _) rfl ?_
        refine G.aload_n (pc' := 67) d_Mod_user_66 rfl rfl ?_
        refine G.get (pc' := 70) d_Mod_user_67 rfl fg_Mod_108 (HX_31 _ _) rfl ?_
        refine G.eqv (w := vi (s2 31 3)) rfl ?_
        refine G.iload (pc' := 72) d_Mod_user_70 rfl rfl ?_
        refine G.zast (s' := wr (wr (wr (wr s2 39 (ix (s2 31 3)) l1) 40 (ix (s2 31 3)) l2) 42 (ix (s2 31 3)) l3) 43 (ix (s2 31 3)) l4) (pc' := 73) d_Mod_user_72 rfl (HX_43 _ _) (HXa_43 _ _ _ _) ?_
        refine G.aload_n (pc' := 74) d_Mod_user_73 rfl rfl ?_
        refine G.get (pc' := 77) d_Mod_user_74 rfl fg_Mod_47 (HX_31 _ _) rfl ?_
        refine G.aload_n (pc' := 78) d_Mod_user_77 rfl rfl ?_
        refine G.get (pc' := 81) d_Mod_user_78 rfl fg_Mod_108 (HX_31 _ _) rfl ?_
        refine G.eqv (w := vi (s2 31 3)) rfl ?_
        refine G.iload (pc' := 83) d_Mod_user_81 rfl rfl ?_
        refine G.zast (s' := wr (wr (wr (wr (wr s2 39 (ix (s2 31 3)) l1) 40 (ix (s2 31 3)) l2) 42 (ix (s2 31 3)) l3) 43 (ix (s2 31 3)) l4) 44 (ix (s2 31 3)) l5) (pc' := 84) d_Mod_user_83 rfl (HX_44 _ _) (HXa_44 _ _ _ _) ?_
        refine G.aload_n (pc' := 85) d_Mod_user_84 rfl rfl ?_
        refine G.get (pc' := 88) d_Mod_user_85 rfl fg_Mod_38 (HX_31 _ _) rfl ?_
        refine G.aload_n (pc' := 89) d_Mod_user_88 rfl rfl ?_
        refine G.get (pc' := 92) d_Mod_user_89 rfl fg_Mod_108 (HX_31 _ _) rfl ?_
        refine G.eqv (w := vi (s2 31 3)) rfl ?_
        refine G.iload (pc' := 94) d_Mod_user_92 rfl rfl ?_
        refine G.iast (s' := wr (wr (wr (wr (wr (wr s2 39 (ix (s2 31 3)) l1) 40 (ix (s2 31 3)) l2) 42 (ix (s2 31 3)) l3) 43 (ix (s2 31 3)) l4) 44 (ix (s2 31 3)) l5) 41 (ix (s2 31 3)) l6) (pc' := 95) d_Mod_user_94 rfl (HX_41 _ _) (HXa_41 _ _ _ _) ?_
        refine G.aload_n (pc' := 96) d_Mod_user_95 rfl rfl ?_
        refine G.dup (pc' := 97) d_Mod_user_96 rfl ?_
        refine G.get (pc' := 100) d_Mod_user_97 rfl fg_Mod_108 (HX_31 _ _) rfl ?_
        refine G.eqv (w := vi (s2 31 3)) rfl ?_
        refine G.iconst (v := 1) (pc' := 101) d_Mod_user_100 rfl kI_1 ?_
        refine G.iadd (pc' := 102) d_Mod_user_101 rfl ?_
        refine G.put (s' := wr (wr (wr (wr (wr (wr (wr s2 39 (ix (s2 31 3)) l1) 40 (ix (s2 31 3)) l2) 42 (ix (s2 31 3)) l3) 43 (ix (s2 31 3)) l4) 44 (ix (s2 31 3)) l5) 41 (ix (s2 31 3)) l6) 31 3 ((s2 31 3) + 1)) (pc' := 105) d_Mod_user_102 rfl fp_Mod_108 trivial (HX_31 _ _) rfl (HXf_31_3 _ _ _) ?_
        refine G.aload_n (pc' := 106) d_Mod_user_105 rfl rfl ?_
        refine G.iconst (v := 1) (pc' := 107) d_Mod_user_106 rfl kI_1 ?_
        refine G.put (s' := wr (wr (wr (wr (wr (wr (wr (wr s2 39 (ix (s2 31 3)) l1) 40 (ix (s2 31 3)) l2) 42 (ix (s2 31 3)) l3) 43 (ix (s2 31 3)) l4) 44 (ix (s2 31 3)) l5) 41 (ix (s2 31 3)) l6) 31 3 ((s2 31 3) + 1)) 31 33 1) (pc' := 110) d_Mod_user_107 rfl fp_Mod_114 (Or.inr rfl) (HX_31 _ _) rfl (HXf_31_33 _ _ _) ?_
        refine G.aload_n (pc' := 111) d_Mod_user_110 rfl rfl ?_
        refine G.get (pc' := 114) d_Mod_user_111 rfl fg_Mod_108 (HX_31 _ _) rfl ?_
        refine G.eqv (w := vi ((s2 31 3) + 1)) rfl ?_
        refine G.iconst (v := 1) (pc' := 115) d_Mod_user_114 rfl kI_1 ?_
        refine G.isub (pc' := 116) d_Mod_user_115 rfl ?_
        exact G.iret d_Mod_user_116 rfl ⟨Nat.le_refl _, Nat.le_refl _⟩
theorem t_Mod_asking_6 {R : List AC}  (l1 l2 l3 : Int32) : ∀ (l4 l5 : Int32) (s : Sg), Gd q_Mod_asking none 6 [some (vr 31), some (vi l1), some (vi l2), some (vi l3), some (vi l4), some (vi l5)] [] s R 0 0 (f_Mod_asking_6 l1 l2 l3 l4 l5 s) := by
  intro l4 l5 s
  unfold f_Mod_asking_6
  refine G.loop2 (rf := fun l4 l5 => [some (vr 31), some (vi l1), some (vi l2), some (vi l3), some (vi l4), some (vi l5)]) ?_ 4096 l4 l5 s
  intro rec6 hrec6 l4 l5 s
  refine G.iload (pc' := 8) d_Mod_asking_6 rfl rfl ?_
  refine G.iload_n (pc' := 9) d_Mod_asking_8 rfl rfl ?_
  refine G.icmp_ge (pc' := 12) (tgt := 49) d_Mod_asking_9 rfl (by decide) ?_ ?_
  · refine G.iload (pc' := 51) d_Mod_asking_49 rfl rfl ?_
    exact G.iret d_Mod_asking_51 rfl ⟨Nat.le_refl _, Nat.le_refl _⟩
  · refine G.aload_n (pc' := 13) d_Mod_asking_12 rfl rfl ?_
    refine G.get (pc' := 16) d_Mod_asking_13 rfl fg_Mod_50 (HX_31 _ _) rfl ?_
    refine G.iload (pc' := 18) d_Mod_asking_16 rfl rfl ?_
    refine G.iald (pc' := 19) d_Mod_asking_18 rfl (HX_45 _ _) ?_
    refine G.iload_n (pc' := 20) d_Mod_asking_19 rfl rfl ?_
    refine G.icmp_ne (pc' := 23) (tgt := 39) d_Mod_asking_20 rfl (by decide) ?_ ?_
    · refine G.aload_n (pc' := 24) d_Mod_asking_23 rfl rfl ?_
      refine G.get (pc' := 27) d_Mod_asking_24 rfl fg_Mod_53 (HX_31 _ _) rfl ?_
      refine G.iload (pc' := 29) d_Mod_asking_27 rfl rfl ?_
      refine G.iald (pc' := 30) d_Mod_asking_29 rfl (HX_46 _ _) ?_
      refine G.iload_n (pc' := 31) d_Mod_asking_30 rfl rfl ?_
      refine G.icmp_ne (pc' := 34) (tgt := 39) d_Mod_asking_31 rfl (by decide) ?_ ?_
      · refine G.iload (pc' := 36) d_Mod_asking_34 rfl rfl ?_
        refine G.goto (tgt := 41) d_Mod_asking_36 (by decide) ?_
        refine G.istore (ρ' := [some (vr 31), some (vi l1), some (vi l2), some (vi l3), some (vi l5), some (vi l5)]) (pc' := 43) d_Mod_asking_41 rfl (by decide) rfl ?_
        refine G.iinc (w := 1) (v := l5 + 1) (ρ' := [some (vr 31), some (vi l1), some (vi l2), some (vi l3), some (vi l5), some (vi (l5 + 1))]) (pc' := 46) d_Mod_asking_43 rfl rfl (by decide) kI_1 rfl rfl ?_
        refine G.goto (tgt := 6) d_Mod_asking_46 (by decide) ?_
        exact hrec6 l5 (l5 + 1) s
      · refine G.iload (pc' := 41) d_Mod_asking_39 rfl rfl ?_
        refine G.istore (ρ' := [some (vr 31), some (vi l1), some (vi l2), some (vi l3), some (vi l4), some (vi l5)]) (pc' := 43) d_Mod_asking_41 rfl (by decide) rfl ?_
        refine G.iinc (w := 1) (v := l5 + 1) (ρ' := [some (vr 31), some (vi l1), some (vi l2), some (vi l3), some (vi l4), some (vi (l5 + 1))]) (pc' := 46) d_Mod_asking_43 rfl rfl (by decide) kI_1 rfl rfl ?_
        refine G.goto (tgt := 6) d_Mod_asking_46 (by decide) ?_
        exact hrec6 l4 (l5 + 1) s
    · refine G.iload (pc' := 41) d_Mod_asking_39 rfl rfl ?_
      refine G.istore (ρ' := [some (vr 31), some (vi l1), some (vi l2), some (vi l3), some (vi l4), some (vi l5)]) (pc' := 43) d_Mod_asking_41 rfl (by decide) rfl ?_
      refine G.iinc (w := 1) (v := l5 + 1) (ρ' := [some (vr 31), some (vi l1), some (vi l2), some (vi l3), some (vi l4), some (vi (l5 + 1))]) (pc' := 46) d_Mod_asking_43 rfl rfl (by decide) kI_1 rfl rfl ?_
      refine G.goto (tgt := 6) d_Mod_asking_46 (by decide) ?_
      exact hrec6 l4 (l5 + 1) s
theorem t_Mod_asking (l1 l2 l3 : Int32) (s : Sg) (R : List AC) : Ct q_Mod_asking [vr 31, vi l1, vi l2, vi l3] s R (f_Mod_asking l1 l2 l3 s) := by
  refine Ct.of (by decide) rfl (ρ := [some (vr 31), some (vi l1), some (vi l2), some (vi l3), none, none]) rfl ?_
  unfold f_Mod_asking
  refine G.iconst (v := (-1)) (pc' := 1) d_Mod_asking_0 rfl kI_m1 ?_
  refine G.istore (ρ' := [some (vr 31), some (vi l1), some (vi l2), some (vi l3), some (vi (-1)), none]) (pc' := 3) d_Mod_asking_1 rfl (by decide) rfl ?_
  refine G.iconst (v := 0) (pc' := 4) d_Mod_asking_3 rfl kI_0 ?_
  refine G.istore (ρ' := [some (vr 31), some (vi l1), some (vi l2), some (vi l3), some (vi (-1)), some (vi 0)]) (pc' := 6) d_Mod_asking_4 rfl (by decide) rfl ?_
  exact t_Mod_asking_6 l1 l2 l3 (-1) 0 s
theorem t_Mod_asks (l1 l2 : Int32) (s : Sg) (R : List AC) : Ct q_Mod_asks [vr 31, vi l1, vi l2] s R (f_Mod_asks l1 l2 s) := by
  refine Ct.of (by decide) rfl (ρ := [some (vr 31), some (vi l1), some (vi l2), none]) rfl ?_
  unfold f_Mod_asks
  refine G.aload_n (pc' := 1) d_Mod_asks_0 rfl rfl ?_
  refine G.iconst (v := 0) (pc' := 2) d_Mod_asks_1 rfl kI_0 ?_
  refine G.put (s' := wr s 31 0 0) (pc' := 5) d_Mod_asks_2 rfl fp_Mod_102 trivial (HX_31 _ _) rfl (HXf_31_0 _ _ _) ?_
  refine G.aload_n (pc' := 6) d_Mod_asks_5 rfl rfl ?_
  refine G.iload_n (pc' := 7) d_Mod_asks_6 rfl rfl ?_
  refine G.callVi (As := [vi l1]) (n := 1) (i := 31) (ci := 8) (st := []) (t_Mod_isUser l1 (wr s 31 0 0) _) (pc' := 10) d_Mod_asks_7 rfl lm_Mod_130 mk_Mod_isUser mv_Mod_isUser ⟨rfl, rfl⟩ ⟨by decide, by decide⟩ (HX_31 _ _) rfl rfl rfl rfl ⟨Nat.le_refl _, Nat.le_refl _⟩ rfl (fun v1 s1 => ?_)
  refine G.if_ne (pc' := 13) (tgt := 15) d_Mod_asks_10 rfl (by decide) ?_ ?_
  · refine G.iconst (v := (-1)) (pc' := 14) d_Mod_asks_13 rfl kI_m1 ?_
    exact G.iret d_Mod_asks_14 rfl ⟨Nat.le_refl _, Nat.le_refl _⟩
  · refine G.aload_n (pc' := 16) d_Mod_asks_15 rfl rfl ?_
    refine G.aload_n (pc' := 17) d_Mod_asks_16 rfl rfl ?_
    refine G.get (pc' := 20) d_Mod_asks_17 rfl fg_Mod_35 (HX_31 _ _) rfl ?_
    refine G.iload_n (pc' := 21) d_Mod_asks_20 rfl rfl ?_
    refine G.iald (pc' := 22) d_Mod_asks_21 rfl (HX_40 _ _) ?_
    refine G.iload_n (pc' := 23) d_Mod_asks_22 rfl rfl ?_
    refine G.callVi (As := [vi (s1 40 (ix l1)), vi l2]) (n := 2) (i := 31) (ci := 8) (st := []) (t_Mod_named (s1 40 (ix l1)) l2 s1 _) (pc' := 26) d_Mod_asks_23 rfl lm_Mod_126 mk_Mod_named mv_Mod_named ⟨rfl, rfl⟩ ⟨by decide, by decide⟩ (HX_31 _ _) rfl rfl rfl rfl ⟨Nat.le_refl _, Nat.le_refl _⟩ rfl (fun v2 s2 => ?_)
    refine G.istore_n (ρ' := [some (vr 31), some (vi l1), some (vi l2), some (vi v2)]) (pc' := 27) d_Mod_asks_26 rfl (by decide) rfl ?_
    refine G.iload_n (pc' := 28) d_Mod_asks_27 rfl rfl ?_
    refine G.iconst (v := (-1)) (pc' := 29) d_Mod_asks_28 rfl kI_m1 ?_
    refine G.icmp_ne (pc' := 32) (tgt := 35) d_Mod_asks_29 rfl (by decide) ?_ ?_
    · refine G.bipush (v := (-2)) (pc' := 34) d_Mod_asks_32 rfl kB_m2 ?_
      exact G.iret d_Mod_asks_34 rfl ⟨Nat.le_refl _, Nat.le_refl _⟩
    · refine G.aload_n (pc' := 36) d_Mod_asks_35 rfl rfl ?_
      refine G.iload_n (pc' := 37) d_Mod_asks_36 rfl rfl ?_
      refine G.iload_n (pc' := 38) d_Mod_asks_37 rfl rfl ?_
      refine G.aload_n (pc' := 39) d_Mod_asks_38 rfl rfl ?_
      refine G.get (pc' := 42) d_Mod_asks_39 rfl fg_Mod_133 (HX_31 _ _) rfl ?_
      refine G.callVi (As := [vi l1, vi v2, vi (s2 31 4)]) (n := 3) (i := 31) (ci := 8) (st := []) (t_Mod_asking l1 v2 (s2 31 4) s2 _) (pc' := 45) d_Mod_asks_42 rfl lm_Mod_136 mk_Mod_asking mv_Mod_asking ⟨rfl, rfl⟩ ⟨by decide, by decide⟩ (HX_31 _ _) rfl rfl rfl rfl ⟨Nat.le_refl _, Nat.le_refl _⟩ rfl (fun v3 s3 => ?_)
      refine G.iconst (v := (-1)) (pc' := 46) d_Mod_asks_45 rfl kI_m1 ?_
      refine G.icmp_eq (pc' := 49) (tgt := 52) d_Mod_asks_46 rfl (by decide) ?_ ?_
      · refine G.aload_n (pc' := 53) d_Mod_asks_52 rfl rfl ?_
        refine G.get (pc' := 56) d_Mod_asks_53 rfl fg_Mod_50 (HX_31 _ _) rfl ?_
        refine G.aload_n (pc' := 57) d_Mod_asks_56 rfl rfl ?_
        refine G.get (pc' := 60) d_Mod_asks_57 rfl fg_Mod_133 (HX_31 _ _) rfl ?_
        refine G.iload_n (pc' := 61) d_Mod_asks_60 rfl rfl ?_
        refine G.iast (s' := wr s3 45 (ix (s3 31 4)) l1) (pc' := 62) d_Mod_asks_61 rfl (HX_45 _ _) (HXa_45 _ _ _ _) ?_
        refine G.aload_n (pc' := 63) d_Mod_asks_62 rfl rfl ?_
        refine G.get (pc' := 66) d_Mod_asks_63 rfl fg_Mod_53 (HX_31 _ _) rfl ?_
        refine G.aload_n (pc' := 67) d_Mod_asks_66 rfl rfl ?_
        refine G.get (pc' := 70) d_Mod_asks_67 rfl fg_Mod_133 (HX_31 _ _) rfl ?_
        refine G.eqv (w := vi (s3 31 4)) rfl ?_
        refine G.iload_n (pc' := 71) d_Mod_asks_70 rfl rfl ?_
        refine G.iast (s' := wr (wr s3 45 (ix (s3 31 4)) l1) 46 (ix (s3 31 4)) v2) (pc' := 72) d_Mod_asks_71 rfl (HX_46 _ _) (HXa_46 _ _ _ _) ?_
        refine G.aload_n (pc' := 73) d_Mod_asks_72 rfl rfl ?_
        refine G.dup (pc' := 74) d_Mod_asks_73 rfl ?_
        refine G.get (pc' := 77) d_Mod_asks_74 rfl fg_Mod_133 (HX_31 _ _) rfl ?_
        refine G.eqv (w := vi (s3 31 4)) rfl ?_
        refine G.iconst (v := 1) (pc' := 78) d_Mod_asks_77 rfl kI_1 ?_
        refine G.iadd (pc' := 79) d_Mod_asks_78 rfl ?_
        refine G.put (s' := wr (wr (wr s3 45 (ix (s3 31 4)) l1) 46 (ix (s3 31 4)) v2) 31 4 ((s3 31 4) + 1)) (pc' := 82) d_Mod_asks_79 rfl fp_Mod_133 trivial (HX_31 _ _) rfl (HXf_31_4 _ _ _) ?_
        refine G.aload_n (pc' := 83) d_Mod_asks_82 rfl rfl ?_
        refine G.iconst (v := 1) (pc' := 84) d_Mod_asks_83 rfl kI_1 ?_
        refine G.put (s' := wr (wr (wr (wr s3 45 (ix (s3 31 4)) l1) 46 (ix (s3 31 4)) v2) 31 4 ((s3 31 4) + 1)) 31 33 1) (pc' := 87) d_Mod_asks_84 rfl fp_Mod_114 (Or.inr rfl) (HX_31 _ _) rfl (HXf_31_33 _ _ _) ?_
        refine G.iconst (v := 1) (pc' := 88) d_Mod_asks_87 rfl kI_1 ?_
        exact G.iret d_Mod_asks_88 rfl ⟨Nat.le_refl _, Nat.le_refl _⟩
      · refine G.bipush (v := (-3)) (pc' := 51) d_Mod_asks_49 rfl kB_m3 ?_
        exact G.iret d_Mod_asks_51 rfl ⟨Nat.le_refl _, Nat.le_refl _⟩
theorem t_Mod_turn_172 {R : List AC}  (l6 : Int32) (t0 t1 : Int32) (s : Sg) : Gd q_Mod_turn none 172 [some (vr 31), none, none, none, none, none, some (vi l6)] [vi t0, vi t1, vr 49] s R 0 0 (f_Mod_turn_172 l6 t0 t1 s) := by
  unfold f_Mod_turn_172
  refine G.iast (s' := wr s 49 (ix t1) t0) (pc' := 173) d_Mod_turn_172 rfl (HX_49 _ _) (HXa_49 _ _ _ _) ?_
  refine G.aload_n (pc' := 174) d_Mod_turn_173 rfl rfl ?_
  refine G.get (pc' := 177) d_Mod_turn_174 rfl fg_Mod_65 (HX_31 _ _) rfl ?_
  refine G.aload_n (pc' := 178) d_Mod_turn_177 rfl rfl ?_
  refine G.get (pc' := 181) d_Mod_turn_178 rfl fg_Mod_143 (HX_31 _ _) rfl ?_
  refine G.eqv (w := vi (s 31 5)) rfl ?_
  refine G.iload (pc' := 183) d_Mod_turn_181 rfl rfl ?_
  refine G.iast (s' := wr (wr s 49 (ix t1) t0) 50 (ix (s 31 5)) l6) (pc' := 184) d_Mod_turn_183 rfl (HX_50 _ _) (HXa_50 _ _ _ _) ?_
  refine G.aload_n (pc' := 185) d_Mod_turn_184 rfl rfl ?_
  refine G.dup (pc' := 186) d_Mod_turn_185 rfl ?_
  refine G.get (pc' := 189) d_Mod_turn_186 rfl fg_Mod_143 (HX_31 _ _) rfl ?_
  refine G.eqv (w := vi (s 31 5)) rfl ?_
  refine G.iconst (v := 1) (pc' := 190) d_Mod_turn_189 rfl kI_1 ?_
  refine G.iadd (pc' := 191) d_Mod_turn_190 rfl ?_
  refine G.put (s' := wr (wr (wr s 49 (ix t1) t0) 50 (ix (s 31 5)) l6) 31 5 ((s 31 5) + 1)) (pc' := 194) d_Mod_turn_191 rfl fp_Mod_143 trivial (HX_31 _ _) rfl (HXf_31_5 _ _ _) ?_
  refine G.aload_n (pc' := 195) d_Mod_turn_194 rfl rfl ?_
  refine G.iconst (v := 1) (pc' := 196) d_Mod_turn_195 rfl kI_1 ?_
  refine G.put (s' := wr (wr (wr (wr s 49 (ix t1) t0) 50 (ix (s 31 5)) l6) 31 5 ((s 31 5) + 1)) 31 33 1) (pc' := 199) d_Mod_turn_196 rfl fp_Mod_114 (Or.inr rfl) (HX_31 _ _) rfl (HXf_31_33 _ _ _) ?_
  refine G.aload_n (pc' := 200) d_Mod_turn_199 rfl rfl ?_
  refine G.get (pc' := 203) d_Mod_turn_200 rfl fg_Mod_143 (HX_31 _ _) rfl ?_
  refine G.eqv (w := vi ((s 31 5) + 1)) rfl ?_
  refine G.iconst (v := 1) (pc' := 204) d_Mod_turn_203 rfl kI_1 ?_
  refine G.isub (pc' := 205) d_Mod_turn_204 rfl ?_
  exact G.iret d_Mod_turn_205 rfl ⟨Nat.le_refl _, Nat.le_refl _⟩
theorem t_Mod_turn_135 {R : List AC}  (l1 l2 l3 l6 : Int32) (s : Sg) : Gd q_Mod_turn none 135 [some (vr 31), some (vi l1), some (vi l2), some (vi l3), none, none, some (vi l6)] [] s R 0 0 (f_Mod_turn_135 l1 l2 l3 l6 s) := by
  unfold f_Mod_turn_135
  refine G.aload_n (pc' := 136) d_Mod_turn_135 rfl rfl ?_
  refine G.get (pc' := 139) d_Mod_turn_136 rfl fg_Mod_56 (HX_31 _ _) rfl ?_
  refine G.aload_n (pc' := 140) d_Mod_turn_139 rfl rfl ?_
  refine G.get (pc' := 143) d_Mod_turn_140 rfl fg_Mod_143 (HX_31 _ _) rfl ?_
  refine G.iload_n (pc' := 144) d_Mod_turn_143 rfl rfl ?_
  refine G.iast (s' := wr s 47 (ix (s 31 5)) l1) (pc' := 145) d_Mod_turn_144 rfl (HX_47 _ _) (HXa_47 _ _ _ _) ?_
  refine G.aload_n (pc' := 146) d_Mod_turn_145 rfl rfl ?_
  refine G.get (pc' := 149) d_Mod_turn_146 rfl fg_Mod_59 (HX_31 _ _) rfl ?_
  refine G.aload_n (pc' := 150) d_Mod_turn_149 rfl rfl ?_
  refine G.get (pc' := 153) d_Mod_turn_150 rfl fg_Mod_143 (HX_31 _ _) rfl ?_
  refine G.eqv (w := vi (s 31 5)) rfl ?_
  refine G.iload_n (pc' := 154) d_Mod_turn_153 rfl rfl ?_
  refine G.iast (s' := wr (wr s 47 (ix (s 31 5)) l1) 48 (ix (s 31 5)) l2) (pc' := 155) d_Mod_turn_154 rfl (HX_48 _ _) (HXa_48 _ _ _ _) ?_
  refine G.aload_n (pc' := 156) d_Mod_turn_155 rfl rfl ?_
  refine G.get (pc' := 159) d_Mod_turn_156 rfl fg_Mod_62 (HX_31 _ _) rfl ?_
  refine G.aload_n (pc' := 160) d_Mod_turn_159 rfl rfl ?_
  refine G.get (pc' := 163) d_Mod_turn_160 rfl fg_Mod_143 (HX_31 _ _) rfl ?_
  refine G.eqv (w := vi (s 31 5)) rfl ?_
  refine G.iload_n (pc' := 164) d_Mod_turn_163 rfl rfl ?_
  refine G.if_ne (pc' := 167) (tgt := 171) d_Mod_turn_164 rfl (by decide) ?_ ?_
  · refine G.iconst (v := (-1)) (pc' := 168) d_Mod_turn_167 rfl kI_m1 ?_
    refine G.goto (tgt := 172) d_Mod_turn_168 (by decide) ?_
    refine G.mask [true, false, false, false, false, false, true] (ρ' := [some (vr 31), none, none, none, none, none, some (vi l6)]) rfl ?_
    exact t_Mod_turn_172 l6 (-1) (s 31 5) (wr (wr s 47 (ix (s 31 5)) l1) 48 (ix (s 31 5)) l2)
  · refine G.iload_n (pc' := 172) d_Mod_turn_171 rfl rfl ?_
    refine G.mask [true, false, false, false, false, false, true] (ρ' := [some (vr 31), none, none, none, none, none, some (vi l6)]) rfl ?_
    exact t_Mod_turn_172 l6 l3 (s 31 5) (wr (wr s 47 (ix (s 31 5)) l1) 48 (ix (s 31 5)) l2)
theorem t_Mod_turn_123 {R : List AC}  (l1 l2 l3 l6 : Int32) (s : Sg) : Gd q_Mod_turn none 123 [some (vr 31), some (vi l1), some (vi l2), some (vi l3), none, none, some (vi l6)] [] s R 0 0 (f_Mod_turn_123 l1 l2 l3 l6 s) := by
  unfold f_Mod_turn_123
  refine G.iload_n (pc' := 124) d_Mod_turn_123 rfl rfl ?_
  refine G.if_ne (pc' := 127) (tgt := 135) d_Mod_turn_124 rfl (by decide) ?_ ?_
  · refine G.iload (pc' := 129) d_Mod_turn_127 rfl rfl ?_
    refine G.iload_n (pc' := 130) d_Mod_turn_129 rfl rfl ?_
    refine G.icmp_ne (pc' := 133) (tgt := 135) d_Mod_turn_130 rfl (by decide) ?_ ?_
    · refine G.iconst (v := (-1)) (pc' := 134) d_Mod_turn_133 rfl kI_m1 ?_
      exact G.iret d_Mod_turn_134 rfl ⟨Nat.le_refl _, Nat.le_refl _⟩
    · exact t_Mod_turn_135 l1 l2 l3 l6 s
  · exact t_Mod_turn_135 l1 l2 l3 l6 s
theorem t_Mod_turn_110 {R : List AC}  (l1 l2 l3 : Int32) (t0 : Int32) (s : Sg) : Gd q_Mod_turn none 110 [some (vr 31), some (vi l1), some (vi l2), some (vi l3), none, none, none] [vi t0] s R 0 0 (f_Mod_turn_110 l1 l2 l3 t0 s) := by
  unfold f_Mod_turn_110
  refine G.istore (ρ' := [some (vr 31), some (vi l1), some (vi l2), some (vi l3), none, none, some (vi t0)]) (pc' := 112) d_Mod_turn_110 rfl (by decide) rfl ?_
  refine G.iload_n (pc' := 113) d_Mod_turn_112 rfl rfl ?_
  refine G.iconst (v := 1) (pc' := 114) d_Mod_turn_113 rfl kI_1 ?_
  refine G.icmp_eq (pc' := 117) (tgt := 123) d_Mod_turn_114 rfl (by decide) ?_ ?_
  · exact t_Mod_turn_123 l1 l2 l3 t0 s
  · refine G.iload (pc' := 119) d_Mod_turn_117 rfl rfl ?_
    refine G.iconst (v := (-1)) (pc' := 120) d_Mod_turn_119 rfl kI_m1 ?_
    refine G.icmp_eq (pc' := 123) (tgt := 133) d_Mod_turn_120 rfl (by decide) ?_ ?_
    · refine G.iconst (v := (-1)) (pc' := 134) d_Mod_turn_133 rfl kI_m1 ?_
      exact G.iret d_Mod_turn_134 rfl ⟨Nat.le_refl _, Nat.le_refl _⟩
    · exact t_Mod_turn_123 l1 l2 l3 t0 s
theorem t_Mod_turn_105 {R : List AC}  (l1 l2 l3 l4 : Int32) (t0 : Int32) (s : Sg) : Gd q_Mod_turn none 105 [some (vr 31), some (vi l1), some (vi l2), some (vi l3), some (vi l4), none, none] [vi t0, vr 31] s R 0 0 (f_Mod_turn_105 l1 l2 l3 l4 t0 s) := by
  unfold f_Mod_turn_105
  refine G.iload (pc' := 107) d_Mod_turn_105 rfl rfl ?_
  refine G.callVi (As := [vi t0, vi l4]) (n := 2) (i := 31) (ci := 8) (st := []) (t_Mod_named t0 l4 s _) (pc' := 110) d_Mod_turn_107 rfl lm_Mod_126 mk_Mod_named mv_Mod_named ⟨rfl, rfl⟩ ⟨by decide, by decide⟩ (HX_31 _ _) rfl rfl rfl rfl ⟨Nat.le_refl _, Nat.le_refl _⟩ rfl (fun v1 s1 => ?_)
  refine G.mask [true, true, true, true, false, false, false] (ρ' := [some (vr 31), some (vi l1), some (vi l2), some (vi l3), none, none, none]) rfl ?_
  exact t_Mod_turn_110 l1 l2 l3 v1 s1
theorem t_Mod_turn_80 {R : List AC}  (l1 l2 l3 l4 l5 : Int32) (s : Sg) : Gd q_Mod_turn none 80 [some (vr 31), some (vi l1), some (vi l2), some (vi l3), some (vi l4), some (vi l5), none] [] s R 0 0 (f_Mod_turn_80 l1 l2 l3 l4 l5 s) := by
  unfold f_Mod_turn_80
  refine G.iload_n (pc' := 81) d_Mod_turn_80 rfl rfl ?_
  refine G.iconst (v := 1) (pc' := 82) d_Mod_turn_81 rfl kI_1 ?_
  refine G.icmp_ne (pc' := 85) (tgt := 89) d_Mod_turn_82 rfl (by decide) ?_ ?_
  · refine G.iconst (v := (-1)) (pc' := 86) d_Mod_turn_85 rfl kI_m1 ?_
    refine G.goto (tgt := 110) d_Mod_turn_86 (by decide) ?_
    refine G.mask [true, true, true, true, false, false, false] (ρ' := [some (vr 31), some (vi l1), some (vi l2), some (vi l3), none, none, none]) rfl ?_
    exact t_Mod_turn_110 l1 l2 l3 (-1) s
  · refine G.aload_n (pc' := 90) d_Mod_turn_89 rfl rfl ?_
    refine G.iload_n (pc' := 91) d_Mod_turn_90 rfl rfl ?_
    refine G.if_ne (pc' := 94) (tgt := 99) d_Mod_turn_91 rfl (by decide) ?_ ?_
    · refine G.iload (pc' := 96) d_Mod_turn_94 rfl rfl ?_
      refine G.goto (tgt := 105) d_Mod_turn_96 (by decide) ?_
      refine G.mask [true, true, true, true, true, false, false] (ρ' := [some (vr 31), some (vi l1), some (vi l2), some (vi l3), some (vi l4), none, none]) rfl ?_
      exact t_Mod_turn_105 l1 l2 l3 l4 l5 s
    · refine G.aload_n (pc' := 100) d_Mod_turn_99 rfl rfl ?_
      refine G.get (pc' := 103) d_Mod_turn_100 rfl fg_Mod_35 (HX_31 _ _) rfl ?_
      refine G.iload_n (pc' := 104) d_Mod_turn_103 rfl rfl ?_
      refine G.iald (pc' := 105) d_Mod_turn_104 rfl (HX_40 _ _) ?_
      refine G.mask [true, true, true, true, true, false, false] (ρ' := [some (vr 31), some (vi l1), some (vi l2), some (vi l3), some (vi l4), none, none]) rfl ?_
      exact t_Mod_turn_105 l1 l2 l3 l4 (s 40 (ix l3)) s
theorem t_Mod_turn_64 {R : List AC}  (l1 l2 l3 l4 l5 : Int32) (s : Sg) : Gd q_Mod_turn none 64 [some (vr 31), some (vi l1), some (vi l2), some (vi l3), some (vi l4), some (vi l5), none] [] s R 0 0 (f_Mod_turn_64 l1 l2 l3 l4 l5 s) := by
  unfold f_Mod_turn_64
  refine G.iload_n (pc' := 65) d_Mod_turn_64 rfl rfl ?_
  refine G.iconst (v := 1) (pc' := 66) d_Mod_turn_65 rfl kI_1 ?_
  refine G.icmp_ne (pc' := 69) (tgt := 80) d_Mod_turn_66 rfl (by decide) ?_ ?_
  · refine G.aload_n (pc' := 70) d_Mod_turn_69 rfl rfl ?_
    refine G.get (pc' := 73) d_Mod_turn_70 rfl fg_Mod_47 (HX_31 _ _) rfl ?_
    refine G.iload_n (pc' := 74) d_Mod_turn_73 rfl rfl ?_
    refine G.zald (pc' := 75) d_Mod_turn_74 rfl (HX_44 _ _) ?_
    refine G.if_ne (pc' := 78) (tgt := 80) d_Mod_turn_75 rfl (by decide) ?_ ?_
    · refine G.iconst (v := (-1)) (pc' := 79) d_Mod_turn_78 rfl kI_m1 ?_
      exact G.iret d_Mod_turn_79 rfl ⟨Nat.le_refl _, Nat.le_refl _⟩
    · exact t_Mod_turn_80 l1 l2 l3 l4 l5 s
  · exact t_Mod_turn_80 l1 l2 l3 l4 l5 s
theorem t_Mod_turn (l1 l2 l3 l4 : Int32) (s : Sg) (R : List AC) : Ct q_Mod_turn [vr 31, vi l1, vi l2, vi l3, vi l4] s R (f_Mod_turn l1 l2 l3 l4 s) := by
  refine Ct.of (by decide) rfl (ρ := [some (vr 31), some (vi l1), some (vi l2), some (vi l3), some (vi l4), none, none]) rfl ?_
  unfold f_Mod_turn
  refine G.aload_n (pc' := 1) d_Mod_turn_0 rfl rfl ?_
  refine G.iconst (v := 0) (pc' := 2) d_Mod_turn_1 rfl kI_0 ?_
  refine G.put (s' := wr s 31 0 0) (pc' := 5) d_Mod_turn_2 rfl fp_Mod_102 trivial (HX_31 _ _) rfl (HXf_31_0 _ _ _) ?_
  refine G.aload_n (pc' := 6) d_Mod_turn_5 rfl rfl ?_
  refine G.iload_n (pc' := 7) d_Mod_turn_6 rfl rfl ?_
  refine G.callVi (As := [vi l1]) (n := 1) (i := 31) (ci := 8) (st := []) (t_Mod_isFeature l1 (wr s 31 0 0) _) (pc' := 10) d_Mod_turn_7 rfl lm_Mod_140 mk_Mod_isFeature mv_Mod_isFeature ⟨rfl, rfl⟩ ⟨by decide, by decide⟩ (HX_31 _ _) rfl rfl rfl rfl ⟨Nat.le_refl _, Nat.le_refl _⟩ rfl (fun v1 s1 => ?_)
  refine G.if_eq (pc' := 13) (tgt := 31) d_Mod_turn_10 rfl (by decide) ?_ ?_
  · refine G.iconst (v := (-1)) (pc' := 32) d_Mod_turn_31 rfl kI_m1 ?_
    exact G.iret d_Mod_turn_32 rfl ⟨Nat.le_refl _, Nat.le_refl _⟩
  · refine G.iload_n (pc' := 14) d_Mod_turn_13 rfl rfl ?_
    refine G.if_lt (pc' := 17) (tgt := 31) d_Mod_turn_14 rfl (by decide) ?_ ?_
    · refine G.iconst (v := (-1)) (pc' := 32) d_Mod_turn_31 rfl kI_m1 ?_
      exact G.iret d_Mod_turn_32 rfl ⟨Nat.le_refl _, Nat.le_refl _⟩
    · refine G.iload_n (pc' := 18) d_Mod_turn_17 rfl rfl ?_
      refine G.iconst (v := 3) (pc' := 19) d_Mod_turn_18 rfl kI_3 ?_
      refine G.icmp_gt (pc' := 22) (tgt := 31) d_Mod_turn_19 rfl (by decide) ?_ ?_
      · refine G.iconst (v := (-1)) (pc' := 32) d_Mod_turn_31 rfl kI_m1 ?_
        exact G.iret d_Mod_turn_32 rfl ⟨Nat.le_refl _, Nat.le_refl _⟩
      · refine G.aload_n (pc' := 23) d_Mod_turn_22 rfl rfl ?_
        refine G.get (pc' := 26) d_Mod_turn_23 rfl fg_Mod_143 (HX_31 _ _) rfl ?_
        refine G.bipush (v := 60) (pc' := 28) d_Mod_turn_26 rfl kB_60 ?_
        refine G.icmp_ne (pc' := 31) (tgt := 33) d_Mod_turn_28 rfl (by decide) ?_ ?_
        · refine G.iconst (v := (-1)) (pc' := 32) d_Mod_turn_31 rfl kI_m1 ?_
          exact G.iret d_Mod_turn_32 rfl ⟨Nat.le_refl _, Nat.le_refl _⟩
        · refine G.aload_n (pc' := 34) d_Mod_turn_33 rfl rfl ?_
          refine G.get (pc' := 37) d_Mod_turn_34 rfl fg_Mod_19 (HX_31 _ _) rfl ?_
          refine G.iload_n (pc' := 38) d_Mod_turn_37 rfl rfl ?_
          refine G.iald (pc' := 39) d_Mod_turn_38 rfl (HX_35 _ _) ?_
          refine G.istore (ρ' := [some (vr 31), some (vi l1), some (vi l2), some (vi l3), some (vi l4), some (vi (s1 35 (ix l1))), none]) (pc' := 41) d_Mod_turn_39 rfl (by decide) rfl ?_
          refine G.iload_n (pc' := 42) d_Mod_turn_41 rfl rfl ?_
          refine G.if_le (pc' := 45) (tgt := 64) d_Mod_turn_42 rfl (by decide) ?_ ?_
          · exact t_Mod_turn_64 l1 l2 l3 l4 (s1 35 (ix l1)) s1
          · refine G.aload_n (pc' := 46) d_Mod_turn_45 rfl rfl ?_
            refine G.iload_n (pc' := 47) d_Mod_turn_46 rfl rfl ?_
            refine G.callVi (As := [vi l3]) (n := 1) (i := 31) (ci := 8) (st := []) (t_Mod_isUser l3 s1 _) (pc' := 50) d_Mod_turn_47 rfl lm_Mod_130 mk_Mod_isUser mv_Mod_isUser ⟨rfl, rfl⟩ ⟨by decide, by decide⟩ (HX_31 _ _) rfl rfl rfl rfl ⟨Nat.le_refl _, Nat.le_refl _⟩ rfl (fun v2 s2 => ?_)
            refine G.if_eq (pc' := 53) (tgt := 78) d_Mod_turn_50 rfl (by decide) ?_ ?_
            · refine G.iconst (v := (-1)) (pc' := 79) d_Mod_turn_78 rfl kI_m1 ?_
              exact G.iret d_Mod_turn_79 rfl ⟨Nat.le_refl _, Nat.le_refl _⟩
            · refine G.aload_n (pc' := 54) d_Mod_turn_53 rfl rfl ?_
              refine G.get (pc' := 57) d_Mod_turn_54 rfl fg_Mod_32 (HX_31 _ _) rfl ?_
              refine G.iload_n (pc' := 58) d_Mod_turn_57 rfl rfl ?_
              refine G.iald (pc' := 59) d_Mod_turn_58 rfl (HX_39 _ _) ?_
              refine G.iload (pc' := 61) d_Mod_turn_59 rfl rfl ?_
              refine G.icmp_ne (pc' := 64) (tgt := 78) d_Mod_turn_61 rfl (by decide) ?_ ?_
              · exact t_Mod_turn_64 l1 l2 l3 l4 (s1 35 (ix l1)) s2
              · refine G.iconst (v := (-1)) (pc' := 79) d_Mod_turn_78 rfl kI_m1 ?_
                exact G.iret d_Mod_turn_79 rfl ⟨Nat.le_refl _, Nat.le_refl _⟩
theorem t_Mod_isFor (l1 : Int32) (s : Sg) (R : List AC) : Ct q_Mod_isFor [vr 31, vi l1] s R (f_Mod_isFor l1 s) := by
  refine Ct.of (by decide) rfl (ρ := [some (vr 31), some (vi l1)]) rfl ?_
  unfold f_Mod_isFor
  refine G.aload_n (pc' := 1) d_Mod_isFor_0 rfl rfl ?_
  refine G.get (pc' := 4) d_Mod_isFor_1 rfl fg_Mod_38 (HX_31 _ _) rfl ?_
  refine G.iload_n (pc' := 5) d_Mod_isFor_4 rfl rfl ?_
  refine G.iald (pc' := 6) d_Mod_isFor_5 rfl (HX_41 _ _) ?_
  refine G.aload_n (pc' := 7) d_Mod_isFor_6 rfl rfl ?_
  refine G.get (pc' := 10) d_Mod_isFor_7 rfl fg_Mod_146 (HX_31 _ _) rfl ?_
  refine G.ishr (pc' := 11) d_Mod_isFor_10 rfl ?_
  refine G.iconst (v := 1) (pc' := 12) d_Mod_isFor_11 rfl kI_1 ?_
  refine G.iand (pc' := 13) d_Mod_isFor_12 rfl ?_
  refine G.iconst (v := 1) (pc' := 14) d_Mod_isFor_13 rfl kI_1 ?_
  refine G.icmp_ne (pc' := 17) (tgt := 21) d_Mod_isFor_14 rfl (by decide) ?_ ?_
  · refine G.iconst (v := 1) (pc' := 18) d_Mod_isFor_17 rfl kI_1 ?_
    refine G.goto (tgt := 22) d_Mod_isFor_18 (by decide) ?_
    exact G.zretK (by decide) d_Mod_isFor_22 rfl ⟨Nat.le_refl _, Nat.le_refl _⟩
  · refine G.iconst (v := 0) (pc' := 22) d_Mod_isFor_21 rfl kI_0 ?_
    exact G.zretK (by decide) d_Mod_isFor_22 rfl ⟨Nat.le_refl _, Nat.le_refl _⟩
theorem t_Mod_farSide (l1 l2 : Int32) (s : Sg) (R : List AC) : Ct q_Mod_farSide [vr 31, vi l1, vi l2] s R (f_Mod_farSide l1 l2 s) := by
  refine Ct.of (by decide) rfl (ρ := [some (vr 31), some (vi l1), some (vi l2)]) rfl ?_
  unfold f_Mod_farSide
  refine G.aload_n (pc' := 1) d_Mod_farSide_0 rfl rfl ?_
  refine G.get (pc' := 4) d_Mod_farSide_1 rfl fg_Mod_44 (HX_31 _ _) rfl ?_
  refine G.iload_n (pc' := 5) d_Mod_farSide_4 rfl rfl ?_
  refine G.zald (pc' := 6) d_Mod_farSide_5 rfl (HX_43 _ _) ?_
  refine G.if_eq (pc' := 9) (tgt := 13) d_Mod_farSide_6 rfl (by decide) ?_ ?_
  · refine G.iload_n (pc' := 14) d_Mod_farSide_13 rfl rfl ?_
    exact G.iret d_Mod_farSide_14 rfl ⟨Nat.le_refl _, Nat.le_refl _⟩
  · refine G.iconst (v := 1) (pc' := 10) d_Mod_farSide_9 rfl kI_1 ?_
    refine G.goto (tgt := 14) d_Mod_farSide_10 (by decide) ?_
    exact G.iret d_Mod_farSide_14 rfl ⟨Nat.le_refl _, Nat.le_refl _⟩
theorem t_Mod_came (l0 l1 : Int32) (s : Sg) (R : List AC) : Ct q_Mod_came [vi l0, vi l1] s R (f_Mod_came l0 l1 s) := by
  refine Ct.of (by decide) rfl (ρ := [some (vi l0), some (vi l1)]) rfl ?_
  unfold f_Mod_came
  refine G.iload_n (pc' := 1) d_Mod_came_0 rfl rfl ?_
  refine G.if_le (pc' := 4) (tgt := 13) d_Mod_came_1 rfl (by decide) ?_ ?_
  · refine G.iconst (v := 0) (pc' := 14) d_Mod_came_13 rfl kI_0 ?_
    exact G.zretK (by decide) d_Mod_came_14 rfl ⟨Nat.le_refl _, Nat.le_refl _⟩
  · refine G.iload_n (pc' := 5) d_Mod_came_4 rfl rfl ?_
    refine G.iload_n (pc' := 6) d_Mod_came_5 rfl rfl ?_
    refine G.icmp_ge (pc' := 9) (tgt := 13) d_Mod_came_6 rfl (by decide) ?_ ?_
    · refine G.iconst (v := 0) (pc' := 14) d_Mod_came_13 rfl kI_0 ?_
      exact G.zretK (by decide) d_Mod_came_14 rfl ⟨Nat.le_refl _, Nat.le_refl _⟩
    · refine G.iconst (v := 1) (pc' := 10) d_Mod_came_9 rfl kI_1 ?_
      refine G.goto (tgt := 14) d_Mod_came_10 (by decide) ?_
      exact G.zretK (by decide) d_Mod_came_14 rfl ⟨Nat.le_refl _, Nat.le_refl _⟩
theorem t_Mod_comesThere_35 {R : List AC} (rec23 : Int32 → Int32 → Sg → Ro) (l1 l2 l3 l5 : Int32) (hrec23 : ∀ (l4 l5 : Int32) (s : Sg), Gd q_Mod_comesThere none 23 [some (vr 31), some (vi l1), some (vi l2), some (vi l3), some (vi l4), some (vi l5), none] [] s R 0 0 (rec23 l4 l5 s)) : ∀ (l4 l6 : Int32) (s : Sg), Gd q_Mod_comesThere none 35 [some (vr 31), some (vi l1), some (vi l2), some (vi l3), some (vi l4), some (vi l5), some (vi l6)] [] s R 0 0 (f_Mod_comesThere_35 rec23 l1 l2 l3 l5 l4 l6 s) := by
  intro l4 l6 s
  unfold f_Mod_comesThere_35
  refine G.loop2 (rf := fun l4 l6 => [some (vr 31), some (vi l1), some (vi l2), some (vi l3), some (vi l4), some (vi l5), some (vi l6)]) ?_ 4096 l4 l6 s
  intro rec35 hrec35 l4 l6 s
  refine G.iload (pc' := 37) d_Mod_comesThere_35 rfl rfl ?_
  refine G.iconst (v := 2) (pc' := 38) d_Mod_comesThere_37 rfl kI_2 ?_
  refine G.icmp_ge (pc' := 41) (tgt := 110) d_Mod_comesThere_38 rfl (by decide) ?_ ?_
  · refine G.iinc (w := 1) (v := l5 + 1) (ρ' := [some (vr 31), some (vi l1), some (vi l2), some (vi l3), some (vi l4), some (vi (l5 + 1)), some (vi l6)]) (pc' := 113) d_Mod_comesThere_110 rfl rfl (by decide) kI_1 rfl rfl ?_
    refine G.goto (tgt := 23) d_Mod_comesThere_113 (by decide) ?_
    refine G.mask [true, true, true, true, true, true, false] (ρ' := [some (vr 31), some (vi l1), some (vi l2), some (vi l3), some (vi l4), some (vi (l5 + 1)), none]) rfl ?_
    exact hrec23 l4 (l5 + 1) s
  · refine G.iload (pc' := 43) d_Mod_comesThere_41 rfl rfl ?_
    refine G.if_ne (pc' := 46) (tgt := 97) d_Mod_comesThere_43 rfl (by decide) ?_ ?_
    · refine G.aload_n (pc' := 47) d_Mod_comesThere_46 rfl rfl ?_
      refine G.iload (pc' := 49) d_Mod_comesThere_47 rfl rfl ?_
      refine G.callVi (As := [vi l5]) (n := 1) (i := 31) (ci := 8) (st := []) (t_Mod_isFor l5 s _) (pc' := 52) d_Mod_comesThere_49 rfl lm_Mod_152 mk_Mod_isFor mv_Mod_isFor ⟨rfl, rfl⟩ ⟨by decide, by decide⟩ (HX_31 _ _) rfl rfl rfl rfl ⟨Nat.le_refl _, Nat.le_refl _⟩ rfl (fun v1 s1 => ?_)
      refine G.if_eq (pc' := 55) (tgt := 101) d_Mod_comesThere_52 rfl (by decide) ?_ ?_
      · refine G.iconst (v := 0) (pc' := 102) d_Mod_comesThere_101 rfl kI_0 ?_
        refine G.istore (ρ' := [some (vr 31), some (vi l1), some (vi l2), some (vi l3), some (vi 0), some (vi l5), some (vi l6)]) (pc' := 104) d_Mod_comesThere_102 rfl (by decide) rfl ?_
        refine G.iinc (w := 1) (v := l6 + 1) (ρ' := [some (vr 31), some (vi l1), some (vi l2), some (vi l3), some (vi 0), some (vi l5), some (vi (l6 + 1))]) (pc' := 107) d_Mod_comesThere_104 rfl rfl (by decide) kI_1 rfl rfl ?_
        refine G.goto (tgt := 35) d_Mod_comesThere_107 (by decide) ?_
        exact hrec35 0 (l6 + 1) s1
      · refine G.aload_n (pc' := 56) d_Mod_comesThere_55 rfl rfl ?_
        refine G.get (pc' := 59) d_Mod_comesThere_56 rfl fg_Mod_35 (HX_31 _ _) rfl ?_
        refine G.iload (pc' := 61) d_Mod_comesThere_59 rfl rfl ?_
        refine G.iald (pc' := 62) d_Mod_comesThere_61 rfl (HX_40 _ _) ?_
        refine G.iload_n (pc' := 63) d_Mod_comesThere_62 rfl rfl ?_
        refine G.icmp_ne (pc' := 66) (tgt := 101) d_Mod_comesThere_63 rfl (by decide) ?_ ?_
        · refine G.aload_n (pc' := 67) d_Mod_comesThere_66 rfl rfl ?_
          refine G.iload (pc' := 69) d_Mod_comesThere_67 rfl rfl ?_
          refine G.iload (pc' := 71) d_Mod_comesThere_69 rfl rfl ?_
          refine G.callVi (As := [vi l5, vi l6]) (n := 2) (i := 31) (ci := 8) (st := []) (t_Mod_farSide l5 l6 s1 _) (pc' := 74) d_Mod_comesThere_71 rfl lm_Mod_155 mk_Mod_farSide mv_Mod_farSide ⟨rfl, rfl⟩ ⟨by decide, by decide⟩ (HX_31 _ _) rfl rfl rfl rfl ⟨Nat.le_refl _, Nat.le_refl _⟩ rfl (fun v2 s2 => ?_)
          refine G.iload_n (pc' := 75) d_Mod_comesThere_74 rfl rfl ?_
          refine G.icmp_ne (pc' := 78) (tgt := 101) d_Mod_comesThere_75 rfl (by decide) ?_ ?_
          · refine G.aload_n (pc' := 79) d_Mod_comesThere_78 rfl rfl ?_
            refine G.get (pc' := 82) d_Mod_comesThere_79 rfl fg_Mod_74 (HX_31 _ _) rfl ?_
            refine G.iconst (v := 2) (pc' := 83) d_Mod_comesThere_82 rfl kI_2 ?_
            refine G.iload (pc' := 85) d_Mod_comesThere_83 rfl rfl ?_
            refine G.imul (pc' := 86) d_Mod_comesThere_85 rfl ?_
            refine G.iload (pc' := 88) d_Mod_comesThere_86 rfl rfl ?_
            refine G.iadd (pc' := 89) d_Mod_comesThere_88 rfl ?_
            refine G.iald (pc' := 90) d_Mod_comesThere_89 rfl (HX_53 _ _) ?_
            refine G.iload_n (pc' := 91) d_Mod_comesThere_90 rfl rfl ?_
            refine G.callSi (As := [vi (s2 53 (ix ((2 * l5) + l6))), vi l3]) (n := 2) (st := []) (t_Mod_came (s2 53 (ix ((2 * l5) + l6))) l3 s2 _) (pc' := 94) d_Mod_comesThere_91 rfl lm_Mod_158 mk_Mod_came sx_Mod_came ⟨rfl, rfl⟩ ⟨by decide, by decide⟩ rfl rfl rfl ⟨Nat.le_refl _, Nat.le_refl _⟩ rfl (fun v3 s3 => ?_)
            refine G.if_eq (pc' := 97) (tgt := 101) d_Mod_comesThere_94 rfl (by decide) ?_ ?_
            · refine G.iconst (v := 0) (pc' := 102) d_Mod_comesThere_101 rfl kI_0 ?_
              refine G.istore (ρ' := [some (vr 31), some (vi l1), some (vi l2), some (vi l3), some (vi 0), some (vi l5), some (vi l6)]) (pc' := 104) d_Mod_comesThere_102 rfl (by decide) rfl ?_
              refine G.iinc (w := 1) (v := l6 + 1) (ρ' := [some (vr 31), some (vi l1), some (vi l2), some (vi l3), some (vi 0), some (vi l5), some (vi (l6 + 1))]) (pc' := 107) d_Mod_comesThere_104 rfl rfl (by decide) kI_1 rfl rfl ?_
              refine G.goto (tgt := 35) d_Mod_comesThere_107 (by decide) ?_
              exact hrec35 0 (l6 + 1) s3
            · refine G.iconst (v := 1) (pc' := 98) d_Mod_comesThere_97 rfl kI_1 ?_
              refine G.goto (tgt := 102) d_Mod_comesThere_98 (by decide) ?_
              refine G.istore (ρ' := [some (vr 31), some (vi l1), some (vi l2), some (vi l3), some (vi 1), some (vi l5), some (vi l6)]) (pc' := 104) d_Mod_comesThere_102 rfl (by decide) rfl ?_
              refine G.iinc (w := 1) (v := l6 + 1) (ρ' := [some (vr 31), some (vi l1), some (vi l2), some (vi l3), some (vi 1), some (vi l5), some (vi (l6 + 1))]) (pc' := 107) d_Mod_comesThere_104 rfl rfl (by decide) kI_1 rfl rfl ?_
              refine G.goto (tgt := 35) d_Mod_comesThere_107 (by decide) ?_
              exact hrec35 1 (l6 + 1) s3
          · refine G.iconst (v := 0) (pc' := 102) d_Mod_comesThere_101 rfl kI_0 ?_
            refine G.istore (ρ' := [some (vr 31), some (vi l1), some (vi l2), some (vi l3), some (vi 0), some (vi l5), some (vi l6)]) (pc' := 104) d_Mod_comesThere_102 rfl (by decide) rfl ?_
            refine G.iinc (w := 1) (v := l6 + 1) (ρ' := [some (vr 31), some (vi l1), some (vi l2), some (vi l3), some (vi 0), some (vi l5), some (vi (l6 + 1))]) (pc' := 107) d_Mod_comesThere_104 rfl rfl (by decide) kI_1 rfl rfl ?_
            refine G.goto (tgt := 35) d_Mod_comesThere_107 (by decide) ?_
            exact hrec35 0 (l6 + 1) s2
        · refine G.iconst (v := 0) (pc' := 102) d_Mod_comesThere_101 rfl kI_0 ?_
          refine G.istore (ρ' := [some (vr 31), some (vi l1), some (vi l2), some (vi l3), some (vi 0), some (vi l5), some (vi l6)]) (pc' := 104) d_Mod_comesThere_102 rfl (by decide) rfl ?_
          refine G.iinc (w := 1) (v := l6 + 1) (ρ' := [some (vr 31), some (vi l1), some (vi l2), some (vi l3), some (vi 0), some (vi l5), some (vi (l6 + 1))]) (pc' := 107) d_Mod_comesThere_104 rfl rfl (by decide) kI_1 rfl rfl ?_
          refine G.goto (tgt := 35) d_Mod_comesThere_107 (by decide) ?_
          exact hrec35 0 (l6 + 1) s1
    · refine G.iconst (v := 1) (pc' := 98) d_Mod_comesThere_97 rfl kI_1 ?_
      refine G.goto (tgt := 102) d_Mod_comesThere_98 (by decide) ?_
      refine G.istore (ρ' := [some (vr 31), some (vi l1), some (vi l2), some (vi l3), some (vi 1), some (vi l5), some (vi l6)]) (pc' := 104) d_Mod_comesThere_102 rfl (by decide) rfl ?_
      refine G.iinc (w := 1) (v := l6 + 1) (ρ' := [some (vr 31), some (vi l1), some (vi l2), some (vi l3), some (vi 1), some (vi l5), some (vi (l6 + 1))]) (pc' := 107) d_Mod_comesThere_104 rfl rfl (by decide) kI_1 rfl rfl ?_
      refine G.goto (tgt := 35) d_Mod_comesThere_107 (by decide) ?_
      exact hrec35 1 (l6 + 1) s
theorem t_Mod_comesThere_23 {R : List AC}  (l1 l2 l3 : Int32) : ∀ (l4 l5 : Int32) (s : Sg), Gd q_Mod_comesThere none 23 [some (vr 31), some (vi l1), some (vi l2), some (vi l3), some (vi l4), some (vi l5), none] [] s R 0 0 (f_Mod_comesThere_23 l1 l2 l3 l4 l5 s) := by
  intro l4 l5 s
  unfold f_Mod_comesThere_23
  refine G.loop2 (rf := fun l4 l5 => [some (vr 31), some (vi l1), some (vi l2), some (vi l3), some (vi l4), some (vi l5), none]) ?_ 4096 l4 l5 s
  intro rec23 hrec23 l4 l5 s
  refine G.iload (pc' := 25) d_Mod_comesThere_23 rfl rfl ?_
  refine G.aload_n (pc' := 26) d_Mod_comesThere_25 rfl rfl ?_
  refine G.get (pc' := 29) d_Mod_comesThere_26 rfl fg_Mod_149 (HX_31 _ _) rfl ?_
  refine G.icmp_ge (pc' := 32) (tgt := 116) d_Mod_comesThere_29 rfl (by decide) ?_ ?_
  · refine G.iload (pc' := 118) d_Mod_comesThere_116 rfl rfl ?_
    exact G.zret d_Mod_comesThere_118 rfl ⟨Nat.le_refl _, Nat.le_refl _⟩
  · refine G.iconst (v := 0) (pc' := 33) d_Mod_comesThere_32 rfl kI_0 ?_
    refine G.istore (ρ' := [some (vr 31), some (vi l1), some (vi l2), some (vi l3), some (vi l4), some (vi l5), some (vi 0)]) (pc' := 35) d_Mod_comesThere_33 rfl (by decide) rfl ?_
    exact t_Mod_comesThere_35 rec23 l1 l2 l3 l5 hrec23 l4 0 s
theorem t_Mod_comesThere (l1 l2 l3 : Int32) (s : Sg) (R : List AC) : Ct q_Mod_comesThere [vr 31, vi l1, vi l2, vi l3] s R (f_Mod_comesThere l1 l2 l3 s) := by
  refine Ct.of (by decide) rfl (ρ := [some (vr 31), some (vi l1), some (vi l2), some (vi l3), none, none, none]) rfl ?_
  unfold f_Mod_comesThere
  refine G.aload_n (pc' := 1) d_Mod_comesThere_0 rfl rfl ?_
  refine G.get (pc' := 4) d_Mod_comesThere_1 rfl fg_Mod_68 (HX_31 _ _) rfl ?_
  refine G.iload_n (pc' := 5) d_Mod_comesThere_4 rfl rfl ?_
  refine G.zald (pc' := 6) d_Mod_comesThere_5 rfl (HX_51 _ _) ?_
  refine G.if_eq (pc' := 9) (tgt := 17) d_Mod_comesThere_6 rfl (by decide) ?_ ?_
  · refine G.iconst (v := 0) (pc' := 18) d_Mod_comesThere_17 rfl kI_0 ?_
    refine G.istore (ρ' := [some (vr 31), some (vi l1), some (vi l2), some (vi l3), some (vi 0), none, none]) (pc' := 20) d_Mod_comesThere_18 rfl (by decide) rfl ?_
    refine G.iconst (v := 0) (pc' := 21) d_Mod_comesThere_20 rfl kI_0 ?_
    refine G.istore (ρ' := [some (vr 31), some (vi l1), some (vi l2), some (vi l3), some (vi 0), some (vi 0), none]) (pc' := 23) d_Mod_comesThere_21 rfl (by decide) rfl ?_
    exact t_Mod_comesThere_23 l1 l2 l3 0 0 s
  · refine G.iload_n (pc' := 10) d_Mod_comesThere_9 rfl rfl ?_
    refine G.if_ne (pc' := 13) (tgt := 17) d_Mod_comesThere_10 rfl (by decide) ?_ ?_
    · refine G.iconst (v := 1) (pc' := 14) d_Mod_comesThere_13 rfl kI_1 ?_
      refine G.goto (tgt := 18) d_Mod_comesThere_14 (by decide) ?_
      refine G.istore (ρ' := [some (vr 31), some (vi l1), some (vi l2), some (vi l3), some (vi 1), none, none]) (pc' := 20) d_Mod_comesThere_18 rfl (by decide) rfl ?_
      refine G.iconst (v := 0) (pc' := 21) d_Mod_comesThere_20 rfl kI_0 ?_
      refine G.istore (ρ' := [some (vr 31), some (vi l1), some (vi l2), some (vi l3), some (vi 1), some (vi 0), none]) (pc' := 23) d_Mod_comesThere_21 rfl (by decide) rfl ?_
      exact t_Mod_comesThere_23 l1 l2 l3 1 0 s
    · refine G.iconst (v := 0) (pc' := 18) d_Mod_comesThere_17 rfl kI_0 ?_
      refine G.istore (ρ' := [some (vr 31), some (vi l1), some (vi l2), some (vi l3), some (vi 0), none, none]) (pc' := 20) d_Mod_comesThere_18 rfl (by decide) rfl ?_
      refine G.iconst (v := 0) (pc' := 21) d_Mod_comesThere_20 rfl kI_0 ?_
      refine G.istore (ρ' := [some (vr 31), some (vi l1), some (vi l2), some (vi l3), some (vi 0), some (vi 0), none]) (pc' := 23) d_Mod_comesThere_21 rfl (by decide) rfl ?_
      exact t_Mod_comesThere_23 l1 l2 l3 0 0 s
theorem t_Mod_comesLive_87 {R : List AC} (rec51 : Int32 → Int32 → Sg → Ro) (l1 l2 l3 l5 : Int32) (hrec51 : ∀ (l4 l5 : Int32) (s : Sg), Gd q_Mod_comesLive none 51 [some (vr 31), some (vi l1), some (vi l2), some (vi l3), some (vi l4), some (vi l5)] [] s R 0 0 (rec51 l4 l5 s)) (s : Sg) : Gd q_Mod_comesLive none 87 [some (vr 31), some (vi l1), some (vi l2), some (vi l3), none, some (vi l5)] [] s R 0 0 (f_Mod_comesLive_87 rec51 l1 l2 l3 l5 s) := by
  unfold f_Mod_comesLive_87
  refine G.aload_n (pc' := 88) d_Mod_comesLive_87 rfl rfl ?_
  refine G.get (pc' := 91) d_Mod_comesLive_88 rfl fg_Mod_62 (HX_31 _ _) rfl ?_
  refine G.iload (pc' := 93) d_Mod_comesLive_91 rfl rfl ?_
  refine G.iald (pc' := 94) d_Mod_comesLive_93 rfl (HX_49 _ _) ?_
  refine G.iload_n (pc' := 95) d_Mod_comesLive_94 rfl rfl ?_
  refine G.icmp_ne (pc' := 98) (tgt := 125) d_Mod_comesLive_95 rfl (by decide) ?_ ?_
  · refine G.aload_n (pc' := 99) d_Mod_comesLive_98 rfl rfl ?_
    refine G.get (pc' := 102) d_Mod_comesLive_99 rfl fg_Mod_77 (HX_31 _ _) rfl ?_
    refine G.iconst (v := 2) (pc' := 103) d_Mod_comesLive_102 rfl kI_2 ?_
    refine G.aload_n (pc' := 104) d_Mod_comesLive_103 rfl rfl ?_
    refine G.get (pc' := 107) d_Mod_comesLive_104 rfl fg_Mod_56 (HX_31 _ _) rfl ?_
    refine G.iload (pc' := 109) d_Mod_comesLive_107 rfl rfl ?_
    refine G.iald (pc' := 110) d_Mod_comesLive_109 rfl (HX_47 _ _) ?_
    refine G.imul (pc' := 111) d_Mod_comesLive_110 rfl ?_
    refine G.iload_n (pc' := 112) d_Mod_comesLive_111 rfl rfl ?_
    refine G.iadd (pc' := 113) d_Mod_comesLive_112 rfl ?_
    refine G.iald (pc' := 114) d_Mod_comesLive_113 rfl (HX_54 _ _) ?_
    refine G.iload_n (pc' := 115) d_Mod_comesLive_114 rfl rfl ?_
    refine G.callSi (As := [vi (s 54 (ix ((2 * (s 47 (ix l5))) + l2))), vi l3]) (n := 2) (st := []) (t_Mod_came (s 54 (ix ((2 * (s 47 (ix l5))) + l2))) l3 s _) (pc' := 118) d_Mod_comesLive_115 rfl lm_Mod_158 mk_Mod_came sx_Mod_came ⟨rfl, rfl⟩ ⟨by decide, by decide⟩ rfl rfl rfl ⟨Nat.le_refl _, Nat.le_refl _⟩ rfl (fun v1 s1 => ?_)
    refine G.if_eq (pc' := 121) (tgt := 125) d_Mod_comesLive_118 rfl (by decide) ?_ ?_
    · refine G.iconst (v := 0) (pc' := 126) d_Mod_comesLive_125 rfl kI_0 ?_
      refine G.istore (ρ' := [some (vr 31), some (vi l1), some (vi l2), some (vi l3), some (vi 0), some (vi l5)]) (pc' := 128) d_Mod_comesLive_126 rfl (by decide) rfl ?_
      refine G.iinc (w := 1) (v := l5 + 1) (ρ' := [some (vr 31), some (vi l1), some (vi l2), some (vi l3), some (vi 0), some (vi (l5 + 1))]) (pc' := 131) d_Mod_comesLive_128 rfl rfl (by decide) kI_1 rfl rfl ?_
      refine G.goto (tgt := 51) d_Mod_comesLive_131 (by decide) ?_
      exact hrec51 0 (l5 + 1) s1
    · refine G.iconst (v := 1) (pc' := 122) d_Mod_comesLive_121 rfl kI_1 ?_
      refine G.goto (tgt := 126) d_Mod_comesLive_122 (by decide) ?_
      refine G.istore (ρ' := [some (vr 31), some (vi l1), some (vi l2), some (vi l3), some (vi 1), some (vi l5)]) (pc' := 128) d_Mod_comesLive_126 rfl (by decide) rfl ?_
      refine G.iinc (w := 1) (v := l5 + 1) (ρ' := [some (vr 31), some (vi l1), some (vi l2), some (vi l3), some (vi 1), some (vi (l5 + 1))]) (pc' := 131) d_Mod_comesLive_128 rfl rfl (by decide) kI_1 rfl rfl ?_
      refine G.goto (tgt := 51) d_Mod_comesLive_131 (by decide) ?_
      exact hrec51 1 (l5 + 1) s1
  · refine G.iconst (v := 0) (pc' := 126) d_Mod_comesLive_125 rfl kI_0 ?_
    refine G.istore (ρ' := [some (vr 31), some (vi l1), some (vi l2), some (vi l3), some (vi 0), some (vi l5)]) (pc' := 128) d_Mod_comesLive_126 rfl (by decide) rfl ?_
    refine G.iinc (w := 1) (v := l5 + 1) (ρ' := [some (vr 31), some (vi l1), some (vi l2), some (vi l3), some (vi 0), some (vi (l5 + 1))]) (pc' := 131) d_Mod_comesLive_128 rfl rfl (by decide) kI_1 rfl rfl ?_
    refine G.goto (tgt := 51) d_Mod_comesLive_131 (by decide) ?_
    exact hrec51 0 (l5 + 1) s
theorem t_Mod_comesLive_51 {R : List AC}  (l1 l2 l3 : Int32) : ∀ (l4 l5 : Int32) (s : Sg), Gd q_Mod_comesLive none 51 [some (vr 31), some (vi l1), some (vi l2), some (vi l3), some (vi l4), some (vi l5)] [] s R 0 0 (f_Mod_comesLive_51 l1 l2 l3 l4 l5 s) := by
  intro l4 l5 s
  unfold f_Mod_comesLive_51
  refine G.loop2 (rf := fun l4 l5 => [some (vr 31), some (vi l1), some (vi l2), some (vi l3), some (vi l4), some (vi l5)]) ?_ 4096 l4 l5 s
  intro rec51 hrec51 l4 l5 s
  refine G.iload (pc' := 53) d_Mod_comesLive_51 rfl rfl ?_
  refine G.aload_n (pc' := 54) d_Mod_comesLive_53 rfl rfl ?_
  refine G.get (pc' := 57) d_Mod_comesLive_54 rfl fg_Mod_162 (HX_31 _ _) rfl ?_
  refine G.icmp_ge (pc' := 60) (tgt := 134) d_Mod_comesLive_57 rfl (by decide) ?_ ?_
  · refine G.iload (pc' := 136) d_Mod_comesLive_134 rfl rfl ?_
    exact G.zret d_Mod_comesLive_136 rfl ⟨Nat.le_refl _, Nat.le_refl _⟩
  · refine G.iload (pc' := 62) d_Mod_comesLive_60 rfl rfl ?_
    refine G.if_ne (pc' := 65) (tgt := 121) d_Mod_comesLive_62 rfl (by decide) ?_ ?_
    · refine G.aload_n (pc' := 66) d_Mod_comesLive_65 rfl rfl ?_
      refine G.get (pc' := 69) d_Mod_comesLive_66 rfl fg_Mod_59 (HX_31 _ _) rfl ?_
      refine G.iload (pc' := 71) d_Mod_comesLive_69 rfl rfl ?_
      refine G.iald (pc' := 72) d_Mod_comesLive_71 rfl (HX_48 _ _) ?_
      refine G.iconst (v := 1) (pc' := 73) d_Mod_comesLive_72 rfl kI_1 ?_
      refine G.icmp_eq (pc' := 76) (tgt := 87) d_Mod_comesLive_73 rfl (by decide) ?_ ?_
      · refine G.mask [true, true, true, true, false, true] (ρ' := [some (vr 31), some (vi l1), some (vi l2), some (vi l3), none, some (vi l5)]) rfl ?_
        exact t_Mod_comesLive_87 rec51 l1 l2 l3 l5 hrec51 s
      · refine G.aload_n (pc' := 77) d_Mod_comesLive_76 rfl rfl ?_
        refine G.get (pc' := 80) d_Mod_comesLive_77 rfl fg_Mod_59 (HX_31 _ _) rfl ?_
        refine G.iload (pc' := 82) d_Mod_comesLive_80 rfl rfl ?_
        refine G.iald (pc' := 83) d_Mod_comesLive_82 rfl (HX_48 _ _) ?_
        refine G.iconst (v := 2) (pc' := 84) d_Mod_comesLive_83 rfl kI_2 ?_
        refine G.icmp_ne (pc' := 87) (tgt := 125) d_Mod_comesLive_84 rfl (by decide) ?_ ?_
        · refine G.mask [true, true, true, true, false, true] (ρ' := [some (vr 31), some (vi l1), some (vi l2), some (vi l3), none, some (vi l5)]) rfl ?_
          exact t_Mod_comesLive_87 rec51 l1 l2 l3 l5 hrec51 s
        · refine G.iconst (v := 0) (pc' := 126) d_Mod_comesLive_125 rfl kI_0 ?_
          refine G.istore (ρ' := [some (vr 31), some (vi l1), some (vi l2), some (vi l3), some (vi 0), some (vi l5)]) (pc' := 128) d_Mod_comesLive_126 rfl (by decide) rfl ?_
          refine G.iinc (w := 1) (v := l5 + 1) (ρ' := [some (vr 31), some (vi l1), some (vi l2), some (vi l3), some (vi 0), some (vi (l5 + 1))]) (pc' := 131) d_Mod_comesLive_128 rfl rfl (by decide) kI_1 rfl rfl ?_
          refine G.goto (tgt := 51) d_Mod_comesLive_131 (by decide) ?_
          exact hrec51 0 (l5 + 1) s
    · refine G.iconst (v := 1) (pc' := 122) d_Mod_comesLive_121 rfl kI_1 ?_
      refine G.goto (tgt := 126) d_Mod_comesLive_122 (by decide) ?_
      refine G.istore (ρ' := [some (vr 31), some (vi l1), some (vi l2), some (vi l3), some (vi 1), some (vi l5)]) (pc' := 128) d_Mod_comesLive_126 rfl (by decide) rfl ?_
      refine G.iinc (w := 1) (v := l5 + 1) (ρ' := [some (vr 31), some (vi l1), some (vi l2), some (vi l3), some (vi 1), some (vi (l5 + 1))]) (pc' := 131) d_Mod_comesLive_128 rfl rfl (by decide) kI_1 rfl rfl ?_
      refine G.goto (tgt := 51) d_Mod_comesLive_131 (by decide) ?_
      exact hrec51 1 (l5 + 1) s
theorem t_Mod_comesLive (l1 l2 l3 : Int32) (s : Sg) (R : List AC) : Ct q_Mod_comesLive [vr 31, vi l1, vi l2, vi l3] s R (f_Mod_comesLive l1 l2 l3 s) := by
  refine Ct.of (by decide) rfl (ρ := [some (vr 31), some (vi l1), some (vi l2), some (vi l3), none, none]) rfl ?_
  unfold f_Mod_comesLive
  refine G.aload_n (pc' := 1) d_Mod_comesLive_0 rfl rfl ?_
  refine G.iload_n (pc' := 2) d_Mod_comesLive_1 rfl rfl ?_
  refine G.callVi (As := [vi l1]) (n := 1) (i := 31) (ci := 8) (st := []) (t_Mod_isFor l1 s _) (pc' := 5) d_Mod_comesLive_2 rfl lm_Mod_152 mk_Mod_isFor mv_Mod_isFor ⟨rfl, rfl⟩ ⟨by decide, by decide⟩ (HX_31 _ _) rfl rfl rfl rfl ⟨Nat.le_refl _, Nat.le_refl _⟩ rfl (fun v1 s1 => ?_)
  refine G.if_ne (pc' := 8) (tgt := 10) d_Mod_comesLive_5 rfl (by decide) ?_ ?_
  · refine G.iconst (v := 0) (pc' := 9) d_Mod_comesLive_8 rfl kI_0 ?_
    exact G.zretK (by decide) d_Mod_comesLive_9 rfl ⟨Nat.le_refl _, Nat.le_refl _⟩
  · refine G.aload_n (pc' := 11) d_Mod_comesLive_10 rfl rfl ?_
    refine G.get (pc' := 14) d_Mod_comesLive_11 rfl fg_Mod_47 (HX_31 _ _) rfl ?_
    refine G.iload_n (pc' := 15) d_Mod_comesLive_14 rfl rfl ?_
    refine G.zald (pc' := 16) d_Mod_comesLive_15 rfl (HX_44 _ _) ?_
    refine G.if_ne (pc' := 19) (tgt := 45) d_Mod_comesLive_16 rfl (by decide) ?_ ?_
    · refine G.aload_n (pc' := 20) d_Mod_comesLive_19 rfl rfl ?_
      refine G.get (pc' := 23) d_Mod_comesLive_20 rfl fg_Mod_71 (HX_31 _ _) rfl ?_
      refine G.iconst (v := 2) (pc' := 24) d_Mod_comesLive_23 rfl kI_2 ?_
      refine G.aload_n (pc' := 25) d_Mod_comesLive_24 rfl rfl ?_
      refine G.get (pc' := 28) d_Mod_comesLive_25 rfl fg_Mod_32 (HX_31 _ _) rfl ?_
      refine G.iload_n (pc' := 29) d_Mod_comesLive_28 rfl rfl ?_
      refine G.iald (pc' := 30) d_Mod_comesLive_29 rfl (HX_39 _ _) ?_
      refine G.imul (pc' := 31) d_Mod_comesLive_30 rfl ?_
      refine G.iload_n (pc' := 32) d_Mod_comesLive_31 rfl rfl ?_
      refine G.iadd (pc' := 33) d_Mod_comesLive_32 rfl ?_
      refine G.iald (pc' := 34) d_Mod_comesLive_33 rfl (HX_52 _ _) ?_
      refine G.iload_n (pc' := 35) d_Mod_comesLive_34 rfl rfl ?_
      refine G.callSi (As := [vi (s1 52 (ix ((2 * (s1 39 (ix l1))) + l2))), vi l3]) (n := 2) (st := []) (t_Mod_came (s1 52 (ix ((2 * (s1 39 (ix l1))) + l2))) l3 s1 _) (pc' := 38) d_Mod_comesLive_35 rfl lm_Mod_158 mk_Mod_came sx_Mod_came ⟨rfl, rfl⟩ ⟨by decide, by decide⟩ rfl rfl rfl ⟨Nat.le_refl _, Nat.le_refl _⟩ rfl (fun v2 s2 => ?_)
      refine G.if_eq (pc' := 41) (tgt := 45) d_Mod_comesLive_38 rfl (by decide) ?_ ?_
      · refine G.iconst (v := 0) (pc' := 46) d_Mod_comesLive_45 rfl kI_0 ?_
        refine G.istore (ρ' := [some (vr 31), some (vi l1), some (vi l2), some (vi l3), some (vi 0), none]) (pc' := 48) d_Mod_comesLive_46 rfl (by decide) rfl ?_
        refine G.iconst (v := 0) (pc' := 49) d_Mod_comesLive_48 rfl kI_0 ?_
        refine G.istore (ρ' := [some (vr 31), some (vi l1), some (vi l2), some (vi l3), some (vi 0), some (vi 0)]) (pc' := 51) d_Mod_comesLive_49 rfl (by decide) rfl ?_
        exact t_Mod_comesLive_51 l1 l2 l3 0 0 s2
      · refine G.iconst (v := 1) (pc' := 42) d_Mod_comesLive_41 rfl kI_1 ?_
        refine G.goto (tgt := 46) d_Mod_comesLive_42 (by decide) ?_
        refine G.istore (ρ' := [some (vr 31), some (vi l1), some (vi l2), some (vi l3), some (vi 1), none]) (pc' := 48) d_Mod_comesLive_46 rfl (by decide) rfl ?_
        refine G.iconst (v := 0) (pc' := 49) d_Mod_comesLive_48 rfl kI_0 ?_
        refine G.istore (ρ' := [some (vr 31), some (vi l1), some (vi l2), some (vi l3), some (vi 1), some (vi 0)]) (pc' := 51) d_Mod_comesLive_49 rfl (by decide) rfl ?_
        exact t_Mod_comesLive_51 l1 l2 l3 1 0 s2
    · refine G.iconst (v := 0) (pc' := 46) d_Mod_comesLive_45 rfl kI_0 ?_
      refine G.istore (ρ' := [some (vr 31), some (vi l1), some (vi l2), some (vi l3), some (vi 0), none]) (pc' := 48) d_Mod_comesLive_46 rfl (by decide) rfl ?_
      refine G.iconst (v := 0) (pc' := 49) d_Mod_comesLive_48 rfl kI_0 ?_
      refine G.istore (ρ' := [some (vr 31), some (vi l1), some (vi l2), some (vi l3), some (vi 0), some (vi 0)]) (pc' := 51) d_Mod_comesLive_49 rfl (by decide) rfl ?_
      exact t_Mod_comesLive_51 l1 l2 l3 0 0 s1
theorem t_Mod_tell (l1 l2 : Int32) (s : Sg) (R : List AC) : Ct q_Mod_tell [vr 31, vi l1, vi l2] s R (f_Mod_tell l1 l2 s) := by
  refine Ct.of (by decide) rfl (ρ := [some (vr 31), some (vi l1), some (vi l2)]) rfl ?_
  unfold f_Mod_tell
  refine G.aload_n (pc' := 1) d_Mod_tell_0 rfl rfl ?_
  refine G.get (pc' := 4) d_Mod_tell_1 rfl fg_Mod_96 (HX_31 _ _) rfl ?_
  refine G.aload_n (pc' := 5) d_Mod_tell_4 rfl rfl ?_
  refine G.get (pc' := 8) d_Mod_tell_5 rfl fg_Mod_165 (HX_31 _ _) rfl ?_
  refine G.iload_n (pc' := 9) d_Mod_tell_8 rfl rfl ?_
  refine G.iast (s' := wr s 59 (ix (s 31 45)) l1) (pc' := 10) d_Mod_tell_9 rfl (HX_59 _ _) (HXa_59 _ _ _ _) ?_
  refine G.aload_n (pc' := 11) d_Mod_tell_10 rfl rfl ?_
  refine G.get (pc' := 14) d_Mod_tell_11 rfl fg_Mod_99 (HX_31 _ _) rfl ?_
  refine G.aload_n (pc' := 15) d_Mod_tell_14 rfl rfl ?_
  refine G.get (pc' := 18) d_Mod_tell_15 rfl fg_Mod_165 (HX_31 _ _) rfl ?_
  refine G.eqv (w := vi (s 31 45)) rfl ?_
  refine G.iload_n (pc' := 19) d_Mod_tell_18 rfl rfl ?_
  refine G.iast (s' := wr (wr s 59 (ix (s 31 45)) l1) 60 (ix (s 31 45)) l2) (pc' := 20) d_Mod_tell_19 rfl (HX_60 _ _) (HXa_60 _ _ _ _) ?_
  refine G.aload_n (pc' := 21) d_Mod_tell_20 rfl rfl ?_
  refine G.dup (pc' := 22) d_Mod_tell_21 rfl ?_
  refine G.get (pc' := 25) d_Mod_tell_22 rfl fg_Mod_165 (HX_31 _ _) rfl ?_
  refine G.eqv (w := vi (s 31 45)) rfl ?_
  refine G.iconst (v := 1) (pc' := 26) d_Mod_tell_25 rfl kI_1 ?_
  refine G.iadd (pc' := 27) d_Mod_tell_26 rfl ?_
  refine G.put (s' := wr (wr (wr s 59 (ix (s 31 45)) l1) 60 (ix (s 31 45)) l2) 31 45 ((s 31 45) + 1)) (pc' := 30) d_Mod_tell_27 rfl fp_Mod_165 trivial (HX_31 _ _) rfl (HXf_31_45 _ _ _) ?_
  exact G.vret d_Mod_tell_30 rfl ⟨Nat.le_refl _, Nat.le_refl _⟩
theorem t_Mod_turnsOn_86 {R : List AC}  (l2 l3 l5 l6 l7 : Int32) (t0 t1 : Int32) (s : Sg) : Gd q_Mod_turnsOn none 86 [some (vr 31), none, some (vi l2), some (vi l3), none, some (vi l5), some (vi l6), some (vi l7)] [vi t0, vi t1] s R 0 0 (f_Mod_turnsOn_86 l2 l3 l5 l6 l7 t0 t1 s) := by
  unfold f_Mod_turnsOn_86
  refine G.icmp_ne (pc' := 89) (tgt := 110) d_Mod_turnsOn_86 rfl (by decide) ?_ ?_
  · refine G.aload_n (pc' := 90) d_Mod_turnsOn_89 rfl rfl ?_
    refine G.iload (pc' := 92) d_Mod_turnsOn_90 rfl rfl ?_
    refine G.callVi (As := [vi l7]) (n := 1) (i := 31) (ci := 8) (st := []) (t_Mod_isFor l7 s _) (pc' := 95) d_Mod_turnsOn_92 rfl lm_Mod_152 mk_Mod_isFor mv_Mod_isFor ⟨rfl, rfl⟩ ⟨by decide, by decide⟩ (HX_31 _ _) rfl rfl rfl rfl ⟨Nat.le_refl _, Nat.le_refl _⟩ rfl (fun v1 s1 => ?_)
    refine G.if_eq (pc' := 98) (tgt := 110) d_Mod_turnsOn_95 rfl (by decide) ?_ ?_
    · refine G.iconst (v := 0) (pc' := 111) d_Mod_turnsOn_110 rfl kI_0 ?_
      exact G.zretK (by decide) d_Mod_turnsOn_111 rfl ⟨Nat.le_refl _, Nat.le_refl _⟩
    · refine G.aload_n (pc' := 99) d_Mod_turnsOn_98 rfl rfl ?_
      refine G.iload (pc' := 101) d_Mod_turnsOn_99 rfl rfl ?_
      refine G.iload_n (pc' := 102) d_Mod_turnsOn_101 rfl rfl ?_
      refine G.callVi (As := [vi l7, vi l2]) (n := 2) (i := 31) (ci := 8) (st := []) (t_Mod_farSide l7 l2 s1 _) (pc' := 105) d_Mod_turnsOn_102 rfl lm_Mod_155 mk_Mod_farSide mv_Mod_farSide ⟨rfl, rfl⟩ ⟨by decide, by decide⟩ (HX_31 _ _) rfl rfl rfl rfl ⟨Nat.le_refl _, Nat.le_refl _⟩ rfl (fun v2 s2 => ?_)
      refine G.iload (pc' := 107) d_Mod_turnsOn_105 rfl rfl ?_
      refine G.icmp_eq (pc' := 110) (tgt := 112) d_Mod_turnsOn_107 rfl (by decide) ?_ ?_
      · refine G.iload_n (pc' := 113) d_Mod_turnsOn_112 rfl rfl ?_
        refine G.iconst (v := 4) (pc' := 114) d_Mod_turnsOn_113 rfl kI_4 ?_
        refine G.icmp_eq (pc' := 117) (tgt := 136) d_Mod_turnsOn_114 rfl (by decide) ?_ ?_
        · refine G.iconst (v := 1) (pc' := 137) d_Mod_turnsOn_136 rfl kI_1 ?_
          refine G.goto (tgt := 141) d_Mod_turnsOn_137 (by decide) ?_
          exact G.zretK (by decide) d_Mod_turnsOn_141 rfl ⟨Nat.le_refl _, Nat.le_refl _⟩
        · refine G.aload_n (pc' := 118) d_Mod_turnsOn_117 rfl rfl ?_
          refine G.get (pc' := 121) d_Mod_turnsOn_118 rfl fg_Mod_74 (HX_31 _ _) rfl ?_
          refine G.iconst (v := 2) (pc' := 122) d_Mod_turnsOn_121 rfl kI_2 ?_
          refine G.iload (pc' := 124) d_Mod_turnsOn_122 rfl rfl ?_
          refine G.imul (pc' := 125) d_Mod_turnsOn_124 rfl ?_
          refine G.iload_n (pc' := 126) d_Mod_turnsOn_125 rfl rfl ?_
          refine G.iadd (pc' := 127) d_Mod_turnsOn_126 rfl ?_
          refine G.iald (pc' := 128) d_Mod_turnsOn_127 rfl (HX_53 _ _) ?_
          refine G.iload (pc' := 130) d_Mod_turnsOn_128 rfl rfl ?_
          refine G.callSi (As := [vi (s2 53 (ix ((2 * l7) + l2))), vi l6]) (n := 2) (st := []) (t_Mod_came (s2 53 (ix ((2 * l7) + l2))) l6 s2 _) (pc' := 133) d_Mod_turnsOn_130 rfl lm_Mod_158 mk_Mod_came sx_Mod_came ⟨rfl, rfl⟩ ⟨by decide, by decide⟩ rfl rfl rfl ⟨Nat.le_refl _, Nat.le_refl _⟩ rfl (fun v3 s3 => ?_)
          refine G.bz (p1 := 136) (p2 := 137) (p3 := 140) (p4 := 141) d_Mod_turnsOn_133 rfl (by decide) d_Mod_turnsOn_136 rfl d_Mod_turnsOn_137 (by decide) d_Mod_turnsOn_140 rfl ?_
          exact G.zret d_Mod_turnsOn_141 rfl ⟨Nat.le_refl _, Nat.le_refl _⟩
      · refine G.iconst (v := 0) (pc' := 111) d_Mod_turnsOn_110 rfl kI_0 ?_
        exact G.zretK (by decide) d_Mod_turnsOn_111 rfl ⟨Nat.le_refl _, Nat.le_refl _⟩
  · refine G.iconst (v := 0) (pc' := 111) d_Mod_turnsOn_110 rfl kI_0 ?_
    exact G.zretK (by decide) d_Mod_turnsOn_111 rfl ⟨Nat.le_refl _, Nat.le_refl _⟩
theorem t_Mod_turnsOn (l1 l2 l3 l4 l5 l6 : Int32) (s : Sg) (R : List AC) : Ct q_Mod_turnsOn [vr 31, vi l1, vi l2, vi l3, vi l4, vi l5, vi l6] s R (f_Mod_turnsOn l1 l2 l3 l4 l5 l6 s) := by
  refine Ct.of (by decide) rfl (ρ := [some (vr 31), some (vi l1), some (vi l2), some (vi l3), some (vi l4), some (vi l5), some (vi l6), none]) rfl ?_
  unfold f_Mod_turnsOn
  refine G.aload_n (pc' := 1) d_Mod_turnsOn_0 rfl rfl ?_
  refine G.get (pc' := 4) d_Mod_turnsOn_1 rfl fg_Mod_62 (HX_31 _ _) rfl ?_
  refine G.iload_n (pc' := 5) d_Mod_turnsOn_4 rfl rfl ?_
  refine G.iald (pc' := 6) d_Mod_turnsOn_5 rfl (HX_49 _ _) ?_
  refine G.istore (ρ' := [some (vr 31), some (vi l1), some (vi l2), some (vi l3), some (vi l4), some (vi l5), some (vi l6), some (vi (s 49 (ix l1)))]) (pc' := 8) d_Mod_turnsOn_6 rfl (by decide) rfl ?_
  refine G.aload_n (pc' := 9) d_Mod_turnsOn_8 rfl rfl ?_
  refine G.get (pc' := 12) d_Mod_turnsOn_9 rfl fg_Mod_65 (HX_31 _ _) rfl ?_
  refine G.iload_n (pc' := 13) d_Mod_turnsOn_12 rfl rfl ?_
  refine G.iald (pc' := 14) d_Mod_turnsOn_13 rfl (HX_50 _ _) ?_
  refine G.iload (pc' := 16) d_Mod_turnsOn_14 rfl rfl ?_
  refine G.icmp_ne (pc' := 19) (tgt := 42) d_Mod_turnsOn_16 rfl (by decide) ?_ ?_
  · refine G.aload_n (pc' := 20) d_Mod_turnsOn_19 rfl rfl ?_
    refine G.get (pc' := 23) d_Mod_turnsOn_20 rfl fg_Mod_77 (HX_31 _ _) rfl ?_
    refine G.iconst (v := 2) (pc' := 24) d_Mod_turnsOn_23 rfl kI_2 ?_
    refine G.aload_n (pc' := 25) d_Mod_turnsOn_24 rfl rfl ?_
    refine G.get (pc' := 28) d_Mod_turnsOn_25 rfl fg_Mod_56 (HX_31 _ _) rfl ?_
    refine G.iload_n (pc' := 29) d_Mod_turnsOn_28 rfl rfl ?_
    refine G.iald (pc' := 30) d_Mod_turnsOn_29 rfl (HX_47 _ _) ?_
    refine G.imul (pc' := 31) d_Mod_turnsOn_30 rfl ?_
    refine G.iload_n (pc' := 32) d_Mod_turnsOn_31 rfl rfl ?_
    refine G.iadd (pc' := 33) d_Mod_turnsOn_32 rfl ?_
    refine G.iald (pc' := 34) d_Mod_turnsOn_33 rfl (HX_54 _ _) ?_
    refine G.iload (pc' := 36) d_Mod_turnsOn_34 rfl rfl ?_
    refine G.callSi (As := [vi (s 54 (ix ((2 * (s 47 (ix l1))) + l2))), vi l6]) (n := 2) (st := []) (t_Mod_came (s 54 (ix ((2 * (s 47 (ix l1))) + l2))) l6 s _) (pc' := 39) d_Mod_turnsOn_36 rfl lm_Mod_158 mk_Mod_came sx_Mod_came ⟨rfl, rfl⟩ ⟨by decide, by decide⟩ rfl rfl rfl ⟨Nat.le_refl _, Nat.le_refl _⟩ rfl (fun v1 s1 => ?_)
    refine G.if_ne (pc' := 42) (tgt := 44) d_Mod_turnsOn_39 rfl (by decide) ?_ ?_
    · refine G.iconst (v := 0) (pc' := 43) d_Mod_turnsOn_42 rfl kI_0 ?_
      exact G.zretK (by decide) d_Mod_turnsOn_43 rfl ⟨Nat.le_refl _, Nat.le_refl _⟩
    · refine G.iload_n (pc' := 45) d_Mod_turnsOn_44 rfl rfl ?_
      refine G.iconst (v := 3) (pc' := 46) d_Mod_turnsOn_45 rfl kI_3 ?_
      refine G.icmp_ne (pc' := 49) (tgt := 70) d_Mod_turnsOn_46 rfl (by decide) ?_ ?_
      · refine G.aload_n (pc' := 50) d_Mod_turnsOn_49 rfl rfl ?_
        refine G.get (pc' := 53) d_Mod_turnsOn_50 rfl fg_Mod_59 (HX_31 _ _) rfl ?_
        refine G.iload_n (pc' := 54) d_Mod_turnsOn_53 rfl rfl ?_
        refine G.iald (pc' := 55) d_Mod_turnsOn_54 rfl (HX_48 _ _) ?_
        refine G.if_ne (pc' := 58) (tgt := 68) d_Mod_turnsOn_55 rfl (by decide) ?_ ?_
        · refine G.iload_n (pc' := 59) d_Mod_turnsOn_58 rfl rfl ?_
          refine G.iload (pc' := 61) d_Mod_turnsOn_59 rfl rfl ?_
          refine G.icmp_ne (pc' := 64) (tgt := 68) d_Mod_turnsOn_61 rfl (by decide) ?_ ?_
          · refine G.iconst (v := 1) (pc' := 65) d_Mod_turnsOn_64 rfl kI_1 ?_
            refine G.goto (tgt := 69) d_Mod_turnsOn_65 (by decide) ?_
            exact G.zretK (by decide) d_Mod_turnsOn_69 rfl ⟨Nat.le_refl _, Nat.le_refl _⟩
          · refine G.iconst (v := 0) (pc' := 69) d_Mod_turnsOn_68 rfl kI_0 ?_
            exact G.zretK (by decide) d_Mod_turnsOn_69 rfl ⟨Nat.le_refl _, Nat.le_refl _⟩
        · refine G.iconst (v := 0) (pc' := 69) d_Mod_turnsOn_68 rfl kI_0 ?_
          exact G.zretK (by decide) d_Mod_turnsOn_69 rfl ⟨Nat.le_refl _, Nat.le_refl _⟩
      · refine G.aload_n (pc' := 71) d_Mod_turnsOn_70 rfl rfl ?_
        refine G.get (pc' := 74) d_Mod_turnsOn_71 rfl fg_Mod_59 (HX_31 _ _) rfl ?_
        refine G.iload_n (pc' := 75) d_Mod_turnsOn_74 rfl rfl ?_
        refine G.iald (pc' := 76) d_Mod_turnsOn_75 rfl (HX_48 _ _) ?_
        refine G.iload_n (pc' := 77) d_Mod_turnsOn_76 rfl rfl ?_
        refine G.iconst (v := 4) (pc' := 78) d_Mod_turnsOn_77 rfl kI_4 ?_
        refine G.icmp_ne (pc' := 81) (tgt := 85) d_Mod_turnsOn_78 rfl (by decide) ?_ ?_
        · refine G.iconst (v := 2) (pc' := 82) d_Mod_turnsOn_81 rfl kI_2 ?_
          refine G.goto (tgt := 86) d_Mod_turnsOn_82 (by decide) ?_
          refine G.mask [true, false, true, true, false, true, true, true] (ρ' := [some (vr 31), none, some (vi l2), some (vi l3), none, some (vi l5), some (vi l6), some (vi (s 49 (ix l1)))]) rfl ?_
          exact t_Mod_turnsOn_86 l2 l3 l5 l6 (s 49 (ix l1)) 2 (s1 48 (ix l1)) s1
        · refine G.iconst (v := 3) (pc' := 86) d_Mod_turnsOn_85 rfl kI_3 ?_
          refine G.mask [true, false, true, true, false, true, true, true] (ρ' := [some (vr 31), none, some (vi l2), some (vi l3), none, some (vi l5), some (vi l6), some (vi (s 49 (ix l1)))]) rfl ?_
          exact t_Mod_turnsOn_86 l2 l3 l5 l6 (s 49 (ix l1)) 3 (s1 48 (ix l1)) s1
  · refine G.iconst (v := 0) (pc' := 43) d_Mod_turnsOn_42 rfl kI_0 ?_
    exact G.zretK (by decide) d_Mod_turnsOn_43 rfl ⟨Nat.le_refl _, Nat.le_refl _⟩
theorem t_Mod_gather_281 {R : List AC} (rec271 : Int32 → Sg → Ro) (l4 : Int32) (l1 l2 l3 l5 : Int32) (hrec271 : ∀ (l5 : Int32) (s : Sg), Gd q_Mod_gather none 271 [some (vr 31), some (vi l1), some (vi l2), some (vi l3), some (vi l4), some (vi l5), none, none] [] s R 0 0 (rec271 l5 s)) : ∀ (l6 : Int32) (s : Sg), Gd q_Mod_gather none 281 [some (vr 31), some (vi l1), some (vi l2), some (vi l3), some (vi l4), some (vi l5), some (vi l6), none] [] s R 0 0 (f_Mod_gather_281 rec271 l1 l2 l3 l5 l6 s) := by
  intro l6 s
  unfold f_Mod_gather_281
  refine G.loop1 (rf := fun l6 => [some (vr 31), some (vi l1), some (vi l2), some (vi l3), some (vi l4), some (vi l5), some (vi l6), none]) ?_ 4096 l6 s
  intro rec281 hrec281 l6 s
  refine G.iload (pc' := 283) d_Mod_gather_281 rfl rfl ?_
  refine G.iconst (v := 2) (pc' := 284) d_Mod_gather_283 rfl kI_2 ?_
  refine G.aload_n (pc' := 285) d_Mod_gather_284 rfl rfl ?_
  refine G.get (pc' := 288) d_Mod_gather_285 rfl fg_Mod_162 (HX_31 _ _) rfl ?_
  refine G.imul (pc' := 289) d_Mod_gather_288 rfl ?_
  refine G.icmp_ge (pc' := 292) (tgt := 326) d_Mod_gather_289 rfl (by decide) ?_ ?_
  · refine G.iinc (w := 1) (v := l5 + 1) (ρ' := [some (vr 31), some (vi l1), some (vi l2), some (vi l3), some (vi l4), some (vi (l5 + 1)), some (vi l6), none]) (pc' := 329) d_Mod_gather_326 rfl rfl (by decide) kI_1 rfl rfl ?_
    refine G.goto (tgt := 271) d_Mod_gather_329 (by decide) ?_
    refine G.mask [true, true, true, true, true, true, false, false] (ρ' := [some (vr 31), some (vi l1), some (vi l2), some (vi l3), some (vi l4), some (vi (l5 + 1)), none, none]) rfl ?_
    exact hrec271 (l5 + 1) s
  · refine G.aload_n (pc' := 293) d_Mod_gather_292 rfl rfl ?_
    refine G.iload (pc' := 295) d_Mod_gather_293 rfl rfl ?_
    refine G.iconst (v := 2) (pc' := 296) d_Mod_gather_295 rfl kI_2 ?_
    refine G.idivK (by decide) (pc' := 297) d_Mod_gather_296 rfl ?_
    refine G.iload (pc' := 299) d_Mod_gather_297 rfl rfl ?_
    refine G.iconst (v := 2) (pc' := 300) d_Mod_gather_299 rfl kI_2 ?_
    refine G.iremK (by decide) (pc' := 301) d_Mod_gather_300 rfl ?_
    refine G.iload (pc' := 303) d_Mod_gather_301 rfl rfl ?_
    refine G.iload_n (pc' := 304) d_Mod_gather_303 rfl rfl ?_
    refine G.iload_n (pc' := 305) d_Mod_gather_304 rfl rfl ?_
    refine G.iload_n (pc' := 306) d_Mod_gather_305 rfl rfl ?_
    refine G.callVi (As := [vi (l6 / 2), vi (l6 - l6 / 2 * 2), vi l5, vi l1, vi l2, vi l3]) (n := 6) (i := 31) (ci := 8) (st := []) (t_Mod_turnsOn (l6 / 2) (l6 - l6 / 2 * 2) l5 l1 l2 l3 s _) (pc' := 309) d_Mod_gather_306 rfl lm_Mod_175 mk_Mod_turnsOn mv_Mod_turnsOn ⟨rfl, rfl⟩ ⟨by decide, by decide⟩ (HX_31 _ _) rfl rfl rfl rfl ⟨Nat.le_refl _, Nat.le_refl _⟩ rfl (fun v1 s1 => ?_)
    refine G.if_eq (pc' := 312) (tgt := 320) d_Mod_gather_309 rfl (by decide) ?_ ?_
    · refine G.iinc (w := 1) (v := l6 + 1) (ρ' := [some (vr 31), some (vi l1), some (vi l2), some (vi l3), some (vi l4), some (vi l5), some (vi (l6 + 1)), none]) (pc' := 323) d_Mod_gather_320 rfl rfl (by decide) kI_1 rfl rfl ?_
      refine G.goto (tgt := 281) d_Mod_gather_323 (by decide) ?_
      exact hrec281 (l6 + 1) s1
    · refine G.aload_n (pc' := 313) d_Mod_gather_312 rfl rfl ?_
      refine G.iload (pc' := 315) d_Mod_gather_313 rfl rfl ?_
      refine G.iload (pc' := 317) d_Mod_gather_315 rfl rfl ?_
      refine G.callVv (As := [vi l5, vi l6]) (n := 2) (i := 31) (ci := 8) (st := []) (t_Mod_tell l5 l6 s1 _) (pc' := 320) d_Mod_gather_317 rfl lm_Mod_168 mk_Mod_tell mv_Mod_tell ⟨rfl, rfl⟩ ⟨by decide, by decide⟩ (HX_31 _ _) rfl rfl rfl rfl ⟨Nat.le_refl _, Nat.le_refl _⟩ rfl (fun v2 s2 => ?_)
      refine G.iinc (w := 1) (v := l6 + 1) (ρ' := [some (vr 31), some (vi l1), some (vi l2), some (vi l3), some (vi l4), some (vi l5), some (vi (l6 + 1)), none]) (pc' := 323) d_Mod_gather_320 rfl rfl (by decide) kI_1 rfl rfl ?_
      refine G.goto (tgt := 281) d_Mod_gather_323 (by decide) ?_
      exact hrec281 (l6 + 1) s2
theorem t_Mod_gather_271 {R : List AC}  (l1 l2 l3 l4 : Int32) : ∀ (l5 : Int32) (s : Sg), Gd q_Mod_gather none 271 [some (vr 31), some (vi l1), some (vi l2), some (vi l3), some (vi l4), some (vi l5), none, none] [] s R 0 0 (f_Mod_gather_271 l1 l2 l3 l4 l5 s) := by
  intro l5 s
  unfold f_Mod_gather_271
  refine G.loop1 (rf := fun l5 => [some (vr 31), some (vi l1), some (vi l2), some (vi l3), some (vi l4), some (vi l5), none, none]) ?_ 4096 l5 s
  intro rec271 hrec271 l5 s
  refine G.iload (pc' := 273) d_Mod_gather_271 rfl rfl ?_
  refine G.bipush (v := 6) (pc' := 275) d_Mod_gather_273 rfl kB_6 ?_
  refine G.icmp_ge (pc' := 278) (tgt := 332) d_Mod_gather_275 rfl (by decide) ?_ ?_
  · refine G.iconst (v := 1) (pc' := 333) d_Mod_gather_332 rfl kI_1 ?_
    refine G.iload_n (pc' := 334) d_Mod_gather_333 rfl rfl ?_
    refine G.isub (pc' := 335) d_Mod_gather_334 rfl ?_
    refine G.istore (ρ' := [some (vr 31), some (vi l1), some (vi l2), some (vi l3), some (vi l4), some (vi (1 - l2)), none, none]) (pc' := 337) d_Mod_gather_335 rfl (by decide) rfl ?_
    refine G.aload_n (pc' := 338) d_Mod_gather_337 rfl rfl ?_
    refine G.get (pc' := 341) d_Mod_gather_338 rfl fg_Mod_7 (HX_31 _ _) rfl ?_
    refine G.iload (pc' := 343) d_Mod_gather_341 rfl rfl ?_
    refine G.zald (pc' := 344) d_Mod_gather_343 rfl (HX_32 _ _) ?_
    refine G.if_ne (pc' := 347) (tgt := 395) d_Mod_gather_344 rfl (by decide) ?_ ?_
    · refine G.aload_n (pc' := 348) d_Mod_gather_347 rfl rfl ?_
      refine G.get (pc' := 351) d_Mod_gather_348 rfl fg_Mod_77 (HX_31 _ _) rfl ?_
      refine G.iconst (v := 2) (pc' := 352) d_Mod_gather_351 rfl kI_2 ?_
      refine G.iload_n (pc' := 353) d_Mod_gather_352 rfl rfl ?_
      refine G.imul (pc' := 354) d_Mod_gather_353 rfl ?_
      refine G.iload (pc' := 356) d_Mod_gather_354 rfl rfl ?_
      refine G.iadd (pc' := 357) d_Mod_gather_356 rfl ?_
      refine G.iald (pc' := 358) d_Mod_gather_357 rfl (HX_54 _ _) ?_
      refine G.iload_n (pc' := 359) d_Mod_gather_358 rfl rfl ?_
      refine G.callSi (As := [vi (s 54 (ix ((2 * l1) + (1 - l2)))), vi l3]) (n := 2) (st := []) (t_Mod_came (s 54 (ix ((2 * l1) + (1 - l2)))) l3 s _) (pc' := 362) d_Mod_gather_359 rfl lm_Mod_158 mk_Mod_came sx_Mod_came ⟨rfl, rfl⟩ ⟨by decide, by decide⟩ rfl rfl rfl ⟨Nat.le_refl _, Nat.le_refl _⟩ rfl (fun v1 s1 => ?_)
      refine G.if_eq (pc' := 365) (tgt := 395) d_Mod_gather_362 rfl (by decide) ?_ ?_
      · exact G.vret d_Mod_gather_395 rfl ⟨Nat.le_refl _, Nat.le_refl _⟩
      · refine G.aload_n (pc' := 366) d_Mod_gather_365 rfl rfl ?_
        refine G.get (pc' := 369) d_Mod_gather_366 rfl fg_Mod_71 (HX_31 _ _) rfl ?_
        refine G.iconst (v := 2) (pc' := 370) d_Mod_gather_369 rfl kI_2 ?_
        refine G.iload (pc' := 372) d_Mod_gather_370 rfl rfl ?_
        refine G.imul (pc' := 373) d_Mod_gather_372 rfl ?_
        refine G.iload_n (pc' := 374) d_Mod_gather_373 rfl rfl ?_
        refine G.iadd (pc' := 375) d_Mod_gather_374 rfl ?_
        refine G.iald (pc' := 376) d_Mod_gather_375 rfl (HX_52 _ _) ?_
        refine G.iload_n (pc' := 377) d_Mod_gather_376 rfl rfl ?_
        refine G.callSi (As := [vi (s1 52 (ix ((2 * l4) + l2))), vi l3]) (n := 2) (st := []) (t_Mod_came (s1 52 (ix ((2 * l4) + l2))) l3 s1 _) (pc' := 380) d_Mod_gather_377 rfl lm_Mod_158 mk_Mod_came sx_Mod_came ⟨rfl, rfl⟩ ⟨by decide, by decide⟩ rfl rfl rfl ⟨Nat.le_refl _, Nat.le_refl _⟩ rfl (fun v2 s2 => ?_)
        refine G.if_eq (pc' := 383) (tgt := 395) d_Mod_gather_380 rfl (by decide) ?_ ?_
        · exact G.vret d_Mod_gather_395 rfl ⟨Nat.le_refl _, Nat.le_refl _⟩
        · refine G.aload_n (pc' := 384) d_Mod_gather_383 rfl rfl ?_
          refine G.bipush (v := 6) (pc' := 386) d_Mod_gather_384 rfl kB_6 ?_
          refine G.iconst (v := 2) (pc' := 387) d_Mod_gather_386 rfl kI_2 ?_
          refine G.iload_n (pc' := 388) d_Mod_gather_387 rfl rfl ?_
          refine G.imul (pc' := 389) d_Mod_gather_388 rfl ?_
          refine G.iload (pc' := 391) d_Mod_gather_389 rfl rfl ?_
          refine G.iadd (pc' := 392) d_Mod_gather_391 rfl ?_
          refine G.callVv (As := [vi 6, vi ((2 * l1) + (1 - l2))]) (n := 2) (i := 31) (ci := 8) (st := []) (t_Mod_tell 6 ((2 * l1) + (1 - l2)) s2 _) (pc' := 395) d_Mod_gather_392 rfl lm_Mod_168 mk_Mod_tell mv_Mod_tell ⟨rfl, rfl⟩ ⟨by decide, by decide⟩ (HX_31 _ _) rfl rfl rfl rfl ⟨Nat.le_refl _, Nat.le_refl _⟩ rfl (fun v3 s3 => ?_)
          exact G.vret d_Mod_gather_395 rfl ⟨Nat.le_refl _, Nat.le_refl _⟩
    · exact G.vret d_Mod_gather_395 rfl ⟨Nat.le_refl _, Nat.le_refl _⟩
  · refine G.iconst (v := 0) (pc' := 279) d_Mod_gather_278 rfl kI_0 ?_
    refine G.istore (ρ' := [some (vr 31), some (vi l1), some (vi l2), some (vi l3), some (vi l4), some (vi l5), some (vi 0), none]) (pc' := 281) d_Mod_gather_279 rfl (by decide) rfl ?_
    exact t_Mod_gather_281 rec271 l4 l1 l2 l3 l5 hrec271 0 s
theorem t_Mod_gather_170 {R : List AC}  (l1 l2 l3 l4 : Int32) : ∀ (l5 : Int32) (s : Sg), Gd q_Mod_gather none 170 [some (vr 31), some (vi l1), some (vi l2), some (vi l3), some (vi l4), some (vi l5), none, none] [] s R 0 0 (f_Mod_gather_170 l1 l2 l3 l4 l5 s) := by
  intro l5 s
  unfold f_Mod_gather_170
  refine G.loop1 (rf := fun l5 => [some (vr 31), some (vi l1), some (vi l2), some (vi l3), some (vi l4), some (vi l5), none, none]) ?_ 4096 l5 s
  intro rec170 hrec170 l5 s
  refine G.iload (pc' := 172) d_Mod_gather_170 rfl rfl ?_
  refine G.iconst (v := 2) (pc' := 173) d_Mod_gather_172 rfl kI_2 ?_
  refine G.aload_n (pc' := 174) d_Mod_gather_173 rfl rfl ?_
  refine G.get (pc' := 177) d_Mod_gather_174 rfl fg_Mod_149 (HX_31 _ _) rfl ?_
  refine G.imul (pc' := 178) d_Mod_gather_177 rfl ?_
  refine G.icmp_ge (pc' := 181) (tgt := 268) d_Mod_gather_178 rfl (by decide) ?_ ?_
  · refine G.iconst (v := 3) (pc' := 269) d_Mod_gather_268 rfl kI_3 ?_
    refine G.istore (ρ' := [some (vr 31), some (vi l1), some (vi l2), some (vi l3), some (vi l4), some (vi 3), none, none]) (pc' := 271) d_Mod_gather_269 rfl (by decide) rfl ?_
    exact t_Mod_gather_271 l1 l2 l3 l4 3 s
  · refine G.iload (pc' := 183) d_Mod_gather_181 rfl rfl ?_
    refine G.iconst (v := 2) (pc' := 184) d_Mod_gather_183 rfl kI_2 ?_
    refine G.idivK (by decide) (pc' := 185) d_Mod_gather_184 rfl ?_
    refine G.istore (ρ' := [some (vr 31), some (vi l1), some (vi l2), some (vi l3), some (vi l4), some (vi l5), some (vi (l5 / 2)), none]) (pc' := 187) d_Mod_gather_185 rfl (by decide) rfl ?_
    refine G.aload_n (pc' := 188) d_Mod_gather_187 rfl rfl ?_
    refine G.get (pc' := 191) d_Mod_gather_188 rfl fg_Mod_29 (HX_31 _ _) rfl ?_
    refine G.iload_n (pc' := 192) d_Mod_gather_191 rfl rfl ?_
    refine G.zald (pc' := 193) d_Mod_gather_192 rfl (HX_38 _ _) ?_
    refine G.if_eq (pc' := 196) (tgt := 262) d_Mod_gather_193 rfl (by decide) ?_ ?_
    · refine G.iinc (w := 1) (v := l5 + 1) (ρ' := [some (vr 31), some (vi l1), some (vi l2), some (vi l3), some (vi l4), some (vi (l5 + 1)), some (vi (l5 / 2)), none]) (pc' := 265) d_Mod_gather_262 rfl rfl (by decide) kI_1 rfl rfl ?_
      refine G.goto (tgt := 170) d_Mod_gather_265 (by decide) ?_
      refine G.mask [true, true, true, true, true, true, false, false] (ρ' := [some (vr 31), some (vi l1), some (vi l2), some (vi l3), some (vi l4), some (vi (l5 + 1)), none, none]) rfl ?_
      exact hrec170 (l5 + 1) s
    · refine G.aload_n (pc' := 197) d_Mod_gather_196 rfl rfl ?_
      refine G.get (pc' := 200) d_Mod_gather_197 rfl fg_Mod_35 (HX_31 _ _) rfl ?_
      refine G.iload (pc' := 202) d_Mod_gather_200 rfl rfl ?_
      refine G.iald (pc' := 203) d_Mod_gather_202 rfl (HX_40 _ _) ?_
      refine G.iload (pc' := 205) d_Mod_gather_203 rfl rfl ?_
      refine G.icmp_ne (pc' := 208) (tgt := 262) d_Mod_gather_205 rfl (by decide) ?_ ?_
      · refine G.aload_n (pc' := 209) d_Mod_gather_208 rfl rfl ?_
        refine G.get (pc' := 212) d_Mod_gather_209 rfl fg_Mod_41 (HX_31 _ _) rfl ?_
        refine G.iload (pc' := 214) d_Mod_gather_212 rfl rfl ?_
        refine G.zald (pc' := 215) d_Mod_gather_214 rfl (HX_42 _ _) ?_
        refine G.if_eq (pc' := 218) (tgt := 262) d_Mod_gather_215 rfl (by decide) ?_ ?_
        · refine G.iinc (w := 1) (v := l5 + 1) (ρ' := [some (vr 31), some (vi l1), some (vi l2), some (vi l3), some (vi l4), some (vi (l5 + 1)), some (vi (l5 / 2)), none]) (pc' := 265) d_Mod_gather_262 rfl rfl (by decide) kI_1 rfl rfl ?_
          refine G.goto (tgt := 170) d_Mod_gather_265 (by decide) ?_
          refine G.mask [true, true, true, true, true, true, false, false] (ρ' := [some (vr 31), some (vi l1), some (vi l2), some (vi l3), some (vi l4), some (vi (l5 + 1)), none, none]) rfl ?_
          exact hrec170 (l5 + 1) s
        · refine G.aload_n (pc' := 219) d_Mod_gather_218 rfl rfl ?_
          refine G.iload (pc' := 221) d_Mod_gather_219 rfl rfl ?_
          refine G.callVi (As := [vi (l5 / 2)]) (n := 1) (i := 31) (ci := 8) (st := []) (t_Mod_isFor (l5 / 2) s _) (pc' := 224) d_Mod_gather_221 rfl lm_Mod_152 mk_Mod_isFor mv_Mod_isFor ⟨rfl, rfl⟩ ⟨by decide, by decide⟩ (HX_31 _ _) rfl rfl rfl rfl ⟨Nat.le_refl _, Nat.le_refl _⟩ rfl (fun v1 s1 => ?_)
          refine G.if_eq (pc' := 227) (tgt := 262) d_Mod_gather_224 rfl (by decide) ?_ ?_
          · refine G.iinc (w := 1) (v := l5 + 1) (ρ' := [some (vr 31), some (vi l1), some (vi l2), some (vi l3), some (vi l4), some (vi (l5 + 1)), some (vi (l5 / 2)), none]) (pc' := 265) d_Mod_gather_262 rfl rfl (by decide) kI_1 rfl rfl ?_
            refine G.goto (tgt := 170) d_Mod_gather_265 (by decide) ?_
            refine G.mask [true, true, true, true, true, true, false, false] (ρ' := [some (vr 31), some (vi l1), some (vi l2), some (vi l3), some (vi l4), some (vi (l5 + 1)), none, none]) rfl ?_
            exact hrec170 (l5 + 1) s1
          · refine G.aload_n (pc' := 228) d_Mod_gather_227 rfl rfl ?_
            refine G.iload (pc' := 230) d_Mod_gather_228 rfl rfl ?_
            refine G.iload (pc' := 232) d_Mod_gather_230 rfl rfl ?_
            refine G.iconst (v := 2) (pc' := 233) d_Mod_gather_232 rfl kI_2 ?_
            refine G.iremK (by decide) (pc' := 234) d_Mod_gather_233 rfl ?_
            refine G.callVi (As := [vi (l5 / 2), vi (l5 - l5 / 2 * 2)]) (n := 2) (i := 31) (ci := 8) (st := []) (t_Mod_farSide (l5 / 2) (l5 - l5 / 2 * 2) s1 _) (pc' := 237) d_Mod_gather_234 rfl lm_Mod_155 mk_Mod_farSide mv_Mod_farSide ⟨rfl, rfl⟩ ⟨by decide, by decide⟩ (HX_31 _ _) rfl rfl rfl rfl ⟨Nat.le_refl _, Nat.le_refl _⟩ rfl (fun v2 s2 => ?_)
            refine G.iload_n (pc' := 238) d_Mod_gather_237 rfl rfl ?_
            refine G.icmp_ne (pc' := 241) (tgt := 262) d_Mod_gather_238 rfl (by decide) ?_ ?_
            · refine G.aload_n (pc' := 242) d_Mod_gather_241 rfl rfl ?_
              refine G.get (pc' := 245) d_Mod_gather_242 rfl fg_Mod_74 (HX_31 _ _) rfl ?_
              refine G.iload (pc' := 247) d_Mod_gather_245 rfl rfl ?_
              refine G.iald (pc' := 248) d_Mod_gather_247 rfl (HX_53 _ _) ?_
              refine G.iload_n (pc' := 249) d_Mod_gather_248 rfl rfl ?_
              refine G.callSi (As := [vi (s2 53 (ix l5)), vi l3]) (n := 2) (st := []) (t_Mod_came (s2 53 (ix l5)) l3 s2 _) (pc' := 252) d_Mod_gather_249 rfl lm_Mod_158 mk_Mod_came sx_Mod_came ⟨rfl, rfl⟩ ⟨by decide, by decide⟩ rfl rfl rfl ⟨Nat.le_refl _, Nat.le_refl _⟩ rfl (fun v3 s3 => ?_)
              refine G.if_eq (pc' := 255) (tgt := 262) d_Mod_gather_252 rfl (by decide) ?_ ?_
              · refine G.iinc (w := 1) (v := l5 + 1) (ρ' := [some (vr 31), some (vi l1), some (vi l2), some (vi l3), some (vi l4), some (vi (l5 + 1)), some (vi (l5 / 2)), none]) (pc' := 265) d_Mod_gather_262 rfl rfl (by decide) kI_1 rfl rfl ?_
                refine G.goto (tgt := 170) d_Mod_gather_265 (by decide) ?_
                refine G.mask [true, true, true, true, true, true, false, false] (ρ' := [some (vr 31), some (vi l1), some (vi l2), some (vi l3), some (vi l4), some (vi (l5 + 1)), none, none]) rfl ?_
                exact hrec170 (l5 + 1) s3
              · refine G.aload_n (pc' := 256) d_Mod_gather_255 rfl rfl ?_
                refine G.iconst (v := 2) (pc' := 257) d_Mod_gather_256 rfl kI_2 ?_
                refine G.iload (pc' := 259) d_Mod_gather_257 rfl rfl ?_
                refine G.callVv (As := [vi 2, vi l5]) (n := 2) (i := 31) (ci := 8) (st := []) (t_Mod_tell 2 l5 s3 _) (pc' := 262) d_Mod_gather_259 rfl lm_Mod_168 mk_Mod_tell mv_Mod_tell ⟨rfl, rfl⟩ ⟨by decide, by decide⟩ (HX_31 _ _) rfl rfl rfl rfl ⟨Nat.le_refl _, Nat.le_refl _⟩ rfl (fun v4 s4 => ?_)
                refine G.iinc (w := 1) (v := l5 + 1) (ρ' := [some (vr 31), some (vi l1), some (vi l2), some (vi l3), some (vi l4), some (vi (l5 + 1)), some (vi (l5 / 2)), none]) (pc' := 265) d_Mod_gather_262 rfl rfl (by decide) kI_1 rfl rfl ?_
                refine G.goto (tgt := 170) d_Mod_gather_265 (by decide) ?_
                refine G.mask [true, true, true, true, true, true, false, false] (ρ' := [some (vr 31), some (vi l1), some (vi l2), some (vi l3), some (vi l4), some (vi (l5 + 1)), none, none]) rfl ?_
                exact hrec170 (l5 + 1) s4
            · refine G.iinc (w := 1) (v := l5 + 1) (ρ' := [some (vr 31), some (vi l1), some (vi l2), some (vi l3), some (vi l4), some (vi (l5 + 1)), some (vi (l5 / 2)), none]) (pc' := 265) d_Mod_gather_262 rfl rfl (by decide) kI_1 rfl rfl ?_
              refine G.goto (tgt := 170) d_Mod_gather_265 (by decide) ?_
              refine G.mask [true, true, true, true, true, true, false, false] (ρ' := [some (vr 31), some (vi l1), some (vi l2), some (vi l3), some (vi l4), some (vi (l5 + 1)), none, none]) rfl ?_
              exact hrec170 (l5 + 1) s2
      · refine G.iinc (w := 1) (v := l5 + 1) (ρ' := [some (vr 31), some (vi l1), some (vi l2), some (vi l3), some (vi l4), some (vi (l5 + 1)), some (vi (l5 / 2)), none]) (pc' := 265) d_Mod_gather_262 rfl rfl (by decide) kI_1 rfl rfl ?_
        refine G.goto (tgt := 170) d_Mod_gather_265 (by decide) ?_
        refine G.mask [true, true, true, true, true, true, false, false] (ρ' := [some (vr 31), some (vi l1), some (vi l2), some (vi l3), some (vi l4), some (vi (l5 + 1)), none, none]) rfl ?_
        exact hrec170 (l5 + 1) s
theorem t_Mod_gather_72 {R : List AC}  (l1 l2 l3 l4 : Int32) : ∀ (l5 : Int32) (s : Sg), Gd q_Mod_gather none 72 [some (vr 31), some (vi l1), some (vi l2), some (vi l3), some (vi l4), some (vi l5), none, none] [] s R 0 0 (f_Mod_gather_72 l1 l2 l3 l4 l5 s) := by
  intro l5 s
  unfold f_Mod_gather_72
  refine G.loop1 (rf := fun l5 => [some (vr 31), some (vi l1), some (vi l2), some (vi l3), some (vi l4), some (vi l5), none, none]) ?_ 4096 l5 s
  intro rec72 hrec72 l5 s
  refine G.iload (pc' := 74) d_Mod_gather_72 rfl rfl ?_
  refine G.iconst (v := 2) (pc' := 75) d_Mod_gather_74 rfl kI_2 ?_
  refine G.aload_n (pc' := 76) d_Mod_gather_75 rfl rfl ?_
  refine G.get (pc' := 79) d_Mod_gather_76 rfl fg_Mod_149 (HX_31 _ _) rfl ?_
  refine G.imul (pc' := 80) d_Mod_gather_79 rfl ?_
  refine G.icmp_ge (pc' := 83) (tgt := 167) d_Mod_gather_80 rfl (by decide) ?_ ?_
  · refine G.iconst (v := 0) (pc' := 168) d_Mod_gather_167 rfl kI_0 ?_
    refine G.istore (ρ' := [some (vr 31), some (vi l1), some (vi l2), some (vi l3), some (vi l4), some (vi 0), none, none]) (pc' := 170) d_Mod_gather_168 rfl (by decide) rfl ?_
    exact t_Mod_gather_170 l1 l2 l3 l4 0 s
  · refine G.iload (pc' := 85) d_Mod_gather_83 rfl rfl ?_
    refine G.iconst (v := 2) (pc' := 86) d_Mod_gather_85 rfl kI_2 ?_
    refine G.idivK (by decide) (pc' := 87) d_Mod_gather_86 rfl ?_
    refine G.istore (ρ' := [some (vr 31), some (vi l1), some (vi l2), some (vi l3), some (vi l4), some (vi l5), some (vi (l5 / 2)), none]) (pc' := 89) d_Mod_gather_87 rfl (by decide) rfl ?_
    refine G.aload_n (pc' := 90) d_Mod_gather_89 rfl rfl ?_
    refine G.iload (pc' := 92) d_Mod_gather_90 rfl rfl ?_
    refine G.iload_n (pc' := 93) d_Mod_gather_92 rfl rfl ?_
    refine G.aload_n (pc' := 94) d_Mod_gather_93 rfl rfl ?_
    refine G.get (pc' := 97) d_Mod_gather_94 rfl fg_Mod_172 (HX_31 _ _) rfl ?_
    refine G.callVi (As := [vi (l5 / 2), vi l1, vi (s 31 28)]) (n := 3) (i := 31) (ci := 8) (st := []) (t_Mod_asking (l5 / 2) l1 (s 31 28) s _) (pc' := 100) d_Mod_gather_97 rfl lm_Mod_136 mk_Mod_asking mv_Mod_asking ⟨rfl, rfl⟩ ⟨by decide, by decide⟩ (HX_31 _ _) rfl rfl rfl rfl ⟨Nat.le_refl _, Nat.le_refl _⟩ rfl (fun v1 s1 => ?_)
    refine G.istore (ρ' := [some (vr 31), some (vi l1), some (vi l2), some (vi l3), some (vi l4), some (vi l5), some (vi (l5 / 2)), some (vi v1)]) (pc' := 102) d_Mod_gather_100 rfl (by decide) rfl ?_
    refine G.iload (pc' := 104) d_Mod_gather_102 rfl rfl ?_
    refine G.iconst (v := (-1)) (pc' := 105) d_Mod_gather_104 rfl kI_m1 ?_
    refine G.icmp_eq (pc' := 108) (tgt := 161) d_Mod_gather_105 rfl (by decide) ?_ ?_
    · refine G.iinc (w := 1) (v := l5 + 1) (ρ' := [some (vr 31), some (vi l1), some (vi l2), some (vi l3), some (vi l4), some (vi (l5 + 1)), some (vi (l5 / 2)), some (vi v1)]) (pc' := 164) d_Mod_gather_161 rfl rfl (by decide) kI_1 rfl rfl ?_
      refine G.goto (tgt := 72) d_Mod_gather_164 (by decide) ?_
      refine G.mask [true, true, true, true, true, true, false, false] (ρ' := [some (vr 31), some (vi l1), some (vi l2), some (vi l3), some (vi l4), some (vi (l5 + 1)), none, none]) rfl ?_
      exact hrec72 (l5 + 1) s1
    · refine G.iload (pc' := 110) d_Mod_gather_108 rfl rfl ?_
      refine G.aload_n (pc' := 111) d_Mod_gather_110 rfl rfl ?_
      refine G.get (pc' := 114) d_Mod_gather_111 rfl fg_Mod_89 (HX_31 _ _) rfl ?_
      refine G.icmp_eq (pc' := 117) (tgt := 161) d_Mod_gather_114 rfl (by decide) ?_ ?_
      · refine G.iinc (w := 1) (v := l5 + 1) (ρ' := [some (vr 31), some (vi l1), some (vi l2), some (vi l3), some (vi l4), some (vi (l5 + 1)), some (vi (l5 / 2)), some (vi v1)]) (pc' := 164) d_Mod_gather_161 rfl rfl (by decide) kI_1 rfl rfl ?_
        refine G.goto (tgt := 72) d_Mod_gather_164 (by decide) ?_
        refine G.mask [true, true, true, true, true, true, false, false] (ρ' := [some (vr 31), some (vi l1), some (vi l2), some (vi l3), some (vi l4), some (vi (l5 + 1)), none, none]) rfl ?_
        exact hrec72 (l5 + 1) s1
      · refine G.aload_n (pc' := 118) d_Mod_gather_117 rfl rfl ?_
        refine G.iload (pc' := 120) d_Mod_gather_118 rfl rfl ?_
        refine G.callVi (As := [vi (l5 / 2)]) (n := 1) (i := 31) (ci := 8) (st := []) (t_Mod_isFor (l5 / 2) s1 _) (pc' := 123) d_Mod_gather_120 rfl lm_Mod_152 mk_Mod_isFor mv_Mod_isFor ⟨rfl, rfl⟩ ⟨by decide, by decide⟩ (HX_31 _ _) rfl rfl rfl rfl ⟨Nat.le_refl _, Nat.le_refl _⟩ rfl (fun v2 s2 => ?_)
        refine G.if_eq (pc' := 126) (tgt := 161) d_Mod_gather_123 rfl (by decide) ?_ ?_
        · refine G.iinc (w := 1) (v := l5 + 1) (ρ' := [some (vr 31), some (vi l1), some (vi l2), some (vi l3), some (vi l4), some (vi (l5 + 1)), some (vi (l5 / 2)), some (vi v1)]) (pc' := 164) d_Mod_gather_161 rfl rfl (by decide) kI_1 rfl rfl ?_
          refine G.goto (tgt := 72) d_Mod_gather_164 (by decide) ?_
          refine G.mask [true, true, true, true, true, true, false, false] (ρ' := [some (vr 31), some (vi l1), some (vi l2), some (vi l3), some (vi l4), some (vi (l5 + 1)), none, none]) rfl ?_
          exact hrec72 (l5 + 1) s2
        · refine G.aload_n (pc' := 127) d_Mod_gather_126 rfl rfl ?_
          refine G.iload (pc' := 129) d_Mod_gather_127 rfl rfl ?_
          refine G.iload (pc' := 131) d_Mod_gather_129 rfl rfl ?_
          refine G.iconst (v := 2) (pc' := 132) d_Mod_gather_131 rfl kI_2 ?_
          refine G.iremK (by decide) (pc' := 133) d_Mod_gather_132 rfl ?_
          refine G.callVi (As := [vi (l5 / 2), vi (l5 - l5 / 2 * 2)]) (n := 2) (i := 31) (ci := 8) (st := []) (t_Mod_farSide (l5 / 2) (l5 - l5 / 2 * 2) s2 _) (pc' := 136) d_Mod_gather_133 rfl lm_Mod_155 mk_Mod_farSide mv_Mod_farSide ⟨rfl, rfl⟩ ⟨by decide, by decide⟩ (HX_31 _ _) rfl rfl rfl rfl ⟨Nat.le_refl _, Nat.le_refl _⟩ rfl (fun v3 s3 => ?_)
          refine G.iload_n (pc' := 137) d_Mod_gather_136 rfl rfl ?_
          refine G.icmp_ne (pc' := 140) (tgt := 161) d_Mod_gather_137 rfl (by decide) ?_ ?_
          · refine G.aload_n (pc' := 141) d_Mod_gather_140 rfl rfl ?_
            refine G.get (pc' := 144) d_Mod_gather_141 rfl fg_Mod_74 (HX_31 _ _) rfl ?_
            refine G.iload (pc' := 146) d_Mod_gather_144 rfl rfl ?_
            refine G.iald (pc' := 147) d_Mod_gather_146 rfl (HX_53 _ _) ?_
            refine G.iload_n (pc' := 148) d_Mod_gather_147 rfl rfl ?_
            refine G.callSi (As := [vi (s3 53 (ix l5)), vi l3]) (n := 2) (st := []) (t_Mod_came (s3 53 (ix l5)) l3 s3 _) (pc' := 151) d_Mod_gather_148 rfl lm_Mod_158 mk_Mod_came sx_Mod_came ⟨rfl, rfl⟩ ⟨by decide, by decide⟩ rfl rfl rfl ⟨Nat.le_refl _, Nat.le_refl _⟩ rfl (fun v4 s4 => ?_)
            refine G.if_eq (pc' := 154) (tgt := 161) d_Mod_gather_151 rfl (by decide) ?_ ?_
            · refine G.iinc (w := 1) (v := l5 + 1) (ρ' := [some (vr 31), some (vi l1), some (vi l2), some (vi l3), some (vi l4), some (vi (l5 + 1)), some (vi (l5 / 2)), some (vi v1)]) (pc' := 164) d_Mod_gather_161 rfl rfl (by decide) kI_1 rfl rfl ?_
              refine G.goto (tgt := 72) d_Mod_gather_164 (by decide) ?_
              refine G.mask [true, true, true, true, true, true, false, false] (ρ' := [some (vr 31), some (vi l1), some (vi l2), some (vi l3), some (vi l4), some (vi (l5 + 1)), none, none]) rfl ?_
              exact hrec72 (l5 + 1) s4
            · refine G.aload_n (pc' := 155) d_Mod_gather_154 rfl rfl ?_
              refine G.iconst (v := 1) (pc' := 156) d_Mod_gather_155 rfl kI_1 ?_
              refine G.iload (pc' := 158) d_Mod_gather_156 rfl rfl ?_
              refine G.callVv (As := [vi 1, vi l5]) (n := 2) (i := 31) (ci := 8) (st := []) (t_Mod_tell 1 l5 s4 _) (pc' := 161) d_Mod_gather_158 rfl lm_Mod_168 mk_Mod_tell mv_Mod_tell ⟨rfl, rfl⟩ ⟨by decide, by decide⟩ (HX_31 _ _) rfl rfl rfl rfl ⟨Nat.le_refl _, Nat.le_refl _⟩ rfl (fun v5 s5 => ?_)
              refine G.iinc (w := 1) (v := l5 + 1) (ρ' := [some (vr 31), some (vi l1), some (vi l2), some (vi l3), some (vi l4), some (vi (l5 + 1)), some (vi (l5 / 2)), some (vi v1)]) (pc' := 164) d_Mod_gather_161 rfl rfl (by decide) kI_1 rfl rfl ?_
              refine G.goto (tgt := 72) d_Mod_gather_164 (by decide) ?_
              refine G.mask [true, true, true, true, true, true, false, false] (ρ' := [some (vr 31), some (vi l1), some (vi l2), some (vi l3), some (vi l4), some (vi (l5 + 1)), none, none]) rfl ?_
              exact hrec72 (l5 + 1) s5
          · refine G.iinc (w := 1) (v := l5 + 1) (ρ' := [some (vr 31), some (vi l1), some (vi l2), some (vi l3), some (vi l4), some (vi (l5 + 1)), some (vi (l5 / 2)), some (vi v1)]) (pc' := 164) d_Mod_gather_161 rfl rfl (by decide) kI_1 rfl rfl ?_
            refine G.goto (tgt := 72) d_Mod_gather_164 (by decide) ?_
            refine G.mask [true, true, true, true, true, true, false, false] (ρ' := [some (vr 31), some (vi l1), some (vi l2), some (vi l3), some (vi l4), some (vi (l5 + 1)), none, none]) rfl ?_
            exact hrec72 (l5 + 1) s3
theorem t_Mod_gather (l1 l2 l3 : Int32) (s : Sg) (R : List AC) : Ct q_Mod_gather [vr 31, vi l1, vi l2, vi l3] s R (f_Mod_gather l1 l2 l3 s) := by
  refine Ct.of (by decide) rfl (ρ := [some (vr 31), some (vi l1), some (vi l2), some (vi l3), none, none, none, none]) rfl ?_
  unfold f_Mod_gather
  refine G.aload_n (pc' := 1) d_Mod_gather_0 rfl rfl ?_
  refine G.iconst (v := 0) (pc' := 2) d_Mod_gather_1 rfl kI_0 ?_
  refine G.put (s' := wr s 31 45 0) (pc' := 5) d_Mod_gather_2 rfl fp_Mod_165 trivial (HX_31 _ _) rfl (HXf_31_45 _ _ _) ?_
  refine G.aload_n (pc' := 6) d_Mod_gather_5 rfl rfl ?_
  refine G.get (pc' := 9) d_Mod_gather_6 rfl fg_Mod_19 (HX_31 _ _) rfl ?_
  refine G.iload_n (pc' := 10) d_Mod_gather_9 rfl rfl ?_
  refine G.iald (pc' := 11) d_Mod_gather_10 rfl (HX_35 _ _) ?_
  refine G.eqv (w := vi (s 35 (ix l1))) rfl ?_
  refine G.istore (ρ' := [some (vr 31), some (vi l1), some (vi l2), some (vi l3), some (vi (s 35 (ix l1))), none, none, none]) (pc' := 13) d_Mod_gather_11 rfl (by decide) rfl ?_
  refine G.aload_n (pc' := 14) d_Mod_gather_13 rfl rfl ?_
  refine G.get (pc' := 17) d_Mod_gather_14 rfl fg_Mod_68 (HX_31 _ _) rfl ?_
  refine G.iload (pc' := 19) d_Mod_gather_17 rfl rfl ?_
  refine G.zald (pc' := 20) d_Mod_gather_19 rfl (HX_51 _ _) ?_
  refine G.eqv (w := vi (s 51 (ix (s 35 (ix l1))))) rfl ?_
  refine G.if_eq (pc' := 23) (tgt := 69) d_Mod_gather_20 rfl (by decide) ?_ ?_
  · refine G.iconst (v := 0) (pc' := 70) d_Mod_gather_69 rfl kI_0 ?_
    refine G.istore (ρ' := [some (vr 31), some (vi l1), some (vi l2), some (vi l3), some (vi (s 35 (ix l1))), some (vi 0), none, none]) (pc' := 72) d_Mod_gather_70 rfl (by decide) rfl ?_
    exact t_Mod_gather_72 l1 l2 l3 (s 35 (ix l1)) 0 (wr s 31 45 0)
  · refine G.aload_n (pc' := 24) d_Mod_gather_23 rfl rfl ?_
    refine G.get (pc' := 27) d_Mod_gather_24 rfl fg_Mod_16 (HX_31 _ _) rfl ?_
    refine G.iload (pc' := 29) d_Mod_gather_27 rfl rfl ?_
    refine G.zald (pc' := 30) d_Mod_gather_29 rfl (HX_34 _ _) ?_
    refine G.eqv (w := vi (s 34 (ix (s 35 (ix l1))))) rfl ?_
    refine G.if_eq (pc' := 33) (tgt := 69) d_Mod_gather_30 rfl (by decide) ?_ ?_
    · refine G.iconst (v := 0) (pc' := 70) d_Mod_gather_69 rfl kI_0 ?_
      refine G.istore (ρ' := [some (vr 31), some (vi l1), some (vi l2), some (vi l3), some (vi (s 35 (ix l1))), some (vi 0), none, none]) (pc' := 72) d_Mod_gather_70 rfl (by decide) rfl ?_
      exact t_Mod_gather_72 l1 l2 l3 (s 35 (ix l1)) 0 (wr s 31 45 0)
    · refine G.aload_n (pc' := 34) d_Mod_gather_33 rfl rfl ?_
      refine G.get (pc' := 37) d_Mod_gather_34 rfl fg_Mod_29 (HX_31 _ _) rfl ?_
      refine G.iload_n (pc' := 38) d_Mod_gather_37 rfl rfl ?_
      refine G.zald (pc' := 39) d_Mod_gather_38 rfl (HX_38 _ _) ?_
      refine G.eqv (w := vi (s 38 (ix l1))) rfl ?_
      refine G.if_eq (pc' := 42) (tgt := 69) d_Mod_gather_39 rfl (by decide) ?_ ?_
      · refine G.iconst (v := 0) (pc' := 70) d_Mod_gather_69 rfl kI_0 ?_
        refine G.istore (ρ' := [some (vr 31), some (vi l1), some (vi l2), some (vi l3), some (vi (s 35 (ix l1))), some (vi 0), none, none]) (pc' := 72) d_Mod_gather_70 rfl (by decide) rfl ?_
        exact t_Mod_gather_72 l1 l2 l3 (s 35 (ix l1)) 0 (wr s 31 45 0)
      · refine G.iload_n (pc' := 43) d_Mod_gather_42 rfl rfl ?_
        refine G.if_ne (pc' := 46) (tgt := 69) d_Mod_gather_43 rfl (by decide) ?_ ?_
        · refine G.aload_n (pc' := 47) d_Mod_gather_46 rfl rfl ?_
          refine G.get (pc' := 50) d_Mod_gather_47 rfl fg_Mod_71 (HX_31 _ _) rfl ?_
          refine G.iconst (v := 2) (pc' := 51) d_Mod_gather_50 rfl kI_2 ?_
          refine G.iload (pc' := 53) d_Mod_gather_51 rfl rfl ?_
          refine G.imul (pc' := 54) d_Mod_gather_53 rfl ?_
          refine G.iald (pc' := 55) d_Mod_gather_54 rfl (HX_52 _ _) ?_
          refine G.eqv (w := vi (s 52 (ix (2 * (s 35 (ix l1)))))) rfl ?_
          refine G.iload_n (pc' := 56) d_Mod_gather_55 rfl rfl ?_
          refine G.callSi (As := [vi (s 52 (ix (2 * (s 35 (ix l1))))), vi l3]) (n := 2) (st := []) (t_Mod_came (s 52 (ix (2 * (s 35 (ix l1))))) l3 (wr s 31 45 0) _) (pc' := 59) d_Mod_gather_56 rfl lm_Mod_158 mk_Mod_came sx_Mod_came ⟨rfl, rfl⟩ ⟨by decide, by decide⟩ rfl rfl rfl ⟨Nat.le_refl _, Nat.le_refl _⟩ rfl (fun v1 s1 => ?_)
          refine G.if_eq (pc' := 62) (tgt := 69) d_Mod_gather_59 rfl (by decide) ?_ ?_
          · refine G.iconst (v := 0) (pc' := 70) d_Mod_gather_69 rfl kI_0 ?_
            refine G.istore (ρ' := [some (vr 31), some (vi l1), some (vi l2), some (vi l3), some (vi (s 35 (ix l1))), some (vi 0), none, none]) (pc' := 72) d_Mod_gather_70 rfl (by decide) rfl ?_
            exact t_Mod_gather_72 l1 l2 l3 (s 35 (ix l1)) 0 s1
          · refine G.aload_n (pc' := 63) d_Mod_gather_62 rfl rfl ?_
            refine G.iconst (v := 0) (pc' := 64) d_Mod_gather_63 rfl kI_0 ?_
            refine G.iload (pc' := 66) d_Mod_gather_64 rfl rfl ?_
            refine G.callVv (As := [vi 0, vi (s 35 (ix l1))]) (n := 2) (i := 31) (ci := 8) (st := []) (t_Mod_tell 0 (s 35 (ix l1)) s1 _) (pc' := 69) d_Mod_gather_66 rfl lm_Mod_168 mk_Mod_tell mv_Mod_tell ⟨rfl, rfl⟩ ⟨by decide, by decide⟩ (HX_31 _ _) rfl rfl rfl rfl ⟨Nat.le_refl _, Nat.le_refl _⟩ rfl (fun v2 s2 => ?_)
            refine G.iconst (v := 0) (pc' := 70) d_Mod_gather_69 rfl kI_0 ?_
            refine G.istore (ρ' := [some (vr 31), some (vi l1), some (vi l2), some (vi l3), some (vi (s 35 (ix l1))), some (vi 0), none, none]) (pc' := 72) d_Mod_gather_70 rfl (by decide) rfl ?_
            exact t_Mod_gather_72 l1 l2 l3 (s 35 (ix l1)) 0 s2
        · refine G.iconst (v := 0) (pc' := 70) d_Mod_gather_69 rfl kI_0 ?_
          refine G.istore (ρ' := [some (vr 31), some (vi l1), some (vi l2), some (vi l3), some (vi (s 35 (ix l1))), some (vi 0), none, none]) (pc' := 72) d_Mod_gather_70 rfl (by decide) rfl ?_
          exact t_Mod_gather_72 l1 l2 l3 (s 35 (ix l1)) 0 (wr s 31 45 0)
theorem t_Mod_comesOn (l1 l2 l3 : Int32) (s : Sg) (R : List AC) : Ct q_Mod_comesOn [vr 31, vi l1, vi l2, vi l3] s R (f_Mod_comesOn l1 l2 l3 s) := by
  refine Ct.of (by decide) rfl (ρ := [some (vr 31), some (vi l1), some (vi l2), some (vi l3)]) rfl ?_
  unfold f_Mod_comesOn
  refine G.aload_n (pc' := 1) d_Mod_comesOn_0 rfl rfl ?_
  refine G.iload_n (pc' := 2) d_Mod_comesOn_1 rfl rfl ?_
  refine G.iload_n (pc' := 3) d_Mod_comesOn_2 rfl rfl ?_
  refine G.iload_n (pc' := 4) d_Mod_comesOn_3 rfl rfl ?_
  refine G.callVv (As := [vi l1, vi l2, vi l3]) (n := 3) (i := 31) (ci := 8) (st := []) (t_Mod_gather l1 l2 l3 s _) (pc' := 7) d_Mod_comesOn_4 rfl lm_Mod_179 mk_Mod_gather mv_Mod_gather ⟨rfl, rfl⟩ ⟨by decide, by decide⟩ (HX_31 _ _) rfl rfl rfl rfl ⟨Nat.le_refl _, Nat.le_refl _⟩ rfl (fun v1 s1 => ?_)
  refine G.aload_n (pc' := 8) d_Mod_comesOn_7 rfl rfl ?_
  refine G.get (pc' := 11) d_Mod_comesOn_8 rfl fg_Mod_165 (HX_31 _ _) rfl ?_
  refine G.if_le (pc' := 14) (tgt := 18) d_Mod_comesOn_11 rfl (by decide) ?_ ?_
  · refine G.iconst (v := 0) (pc' := 19) d_Mod_comesOn_18 rfl kI_0 ?_
    exact G.zretK (by decide) d_Mod_comesOn_19 rfl ⟨Nat.le_refl _, Nat.le_refl _⟩
  · refine G.iconst (v := 1) (pc' := 15) d_Mod_comesOn_14 rfl kI_1 ?_
    refine G.goto (tgt := 19) d_Mod_comesOn_15 (by decide) ?_
    exact G.zretK (by decide) d_Mod_comesOn_19 rfl ⟨Nat.le_refl _, Nat.le_refl _⟩
theorem t_Mod_close_184 {R : List AC} (rec67 : Int32 → Int32 → Sg → Ro) (l1 : Int32) (hrec67 : ∀ (l1 l2 : Int32) (s : Sg), Gd q_Mod_close none 67 [some (vr 31), some (vi l1), some (vi l2), none] [] s R 0 0 (rec67 l1 l2 s)) : ∀ (l2 l3 : Int32) (s : Sg), Gd q_Mod_close none 184 [some (vr 31), some (vi l1), some (vi l2), some (vi l3)] [] s R 0 0 (f_Mod_close_184 rec67 l1 l2 l3 s) := by
  intro l2 l3 s
  unfold f_Mod_close_184
  refine G.loop2 (rf := fun l2 l3 => [some (vr 31), some (vi l1), some (vi l2), some (vi l3)]) ?_ 4096 l2 l3 s
  intro rec184 hrec184 l2 l3 s
  refine G.iload_n (pc' := 185) d_Mod_close_184 rfl rfl ?_
  refine G.iconst (v := 2) (pc' := 186) d_Mod_close_185 rfl kI_2 ?_
  refine G.aload_n (pc' := 187) d_Mod_close_186 rfl rfl ?_
  refine G.get (pc' := 190) d_Mod_close_187 rfl fg_Mod_193 (HX_31 _ _) rfl ?_
  refine G.imul (pc' := 191) d_Mod_close_190 rfl ?_
  refine G.icmp_ge (pc' := 194) (tgt := 235) d_Mod_close_191 rfl (by decide) ?_ ?_
  · refine G.goto (tgt := 67) d_Mod_close_235 (by decide) ?_
    refine G.mask [true, true, true, false] (ρ' := [some (vr 31), some (vi l1), some (vi l2), none]) rfl ?_
    exact hrec67 l1 l2 s
  · refine G.aload_n (pc' := 195) d_Mod_close_194 rfl rfl ?_
    refine G.get (pc' := 198) d_Mod_close_195 rfl fg_Mod_77 (HX_31 _ _) rfl ?_
    refine G.iload_n (pc' := 199) d_Mod_close_198 rfl rfl ?_
    refine G.iald (pc' := 200) d_Mod_close_199 rfl (HX_54 _ _) ?_
    refine G.if_gt (pc' := 203) (tgt := 229) d_Mod_close_200 rfl (by decide) ?_ ?_
    · refine G.iinc (w := 1) (v := l3 + 1) (ρ' := [some (vr 31), some (vi l1), some (vi l2), some (vi (l3 + 1))]) (pc' := 232) d_Mod_close_229 rfl rfl (by decide) kI_1 rfl rfl ?_
      refine G.goto (tgt := 184) d_Mod_close_232 (by decide) ?_
      exact hrec184 l2 (l3 + 1) s
    · refine G.aload_n (pc' := 204) d_Mod_close_203 rfl rfl ?_
      refine G.iload_n (pc' := 205) d_Mod_close_204 rfl rfl ?_
      refine G.iconst (v := 2) (pc' := 206) d_Mod_close_205 rfl kI_2 ?_
      refine G.idivK (by decide) (pc' := 207) d_Mod_close_206 rfl ?_
      refine G.iload_n (pc' := 208) d_Mod_close_207 rfl rfl ?_
      refine G.iconst (v := 2) (pc' := 209) d_Mod_close_208 rfl kI_2 ?_
      refine G.iremK (by decide) (pc' := 210) d_Mod_close_209 rfl ?_
      refine G.iload_n (pc' := 211) d_Mod_close_210 rfl rfl ?_
      refine G.callVi (As := [vi (l3 / 2), vi (l3 - l3 / 2 * 2), vi l1]) (n := 3) (i := 31) (ci := 8) (st := []) (t_Mod_comesOn (l3 / 2) (l3 - l3 / 2 * 2) l1 s _) (pc' := 214) d_Mod_close_211 rfl lm_Mod_196 mk_Mod_comesOn mv_Mod_comesOn ⟨rfl, rfl⟩ ⟨by decide, by decide⟩ (HX_31 _ _) rfl rfl rfl rfl ⟨Nat.le_refl _, Nat.le_refl _⟩ rfl (fun v1 s1 => ?_)
      refine G.if_ne (pc' := 217) (tgt := 220) d_Mod_close_214 rfl (by decide) ?_ ?_
      · refine G.goto (tgt := 229) d_Mod_close_217 (by decide) ?_
        refine G.iinc (w := 1) (v := l3 + 1) (ρ' := [some (vr 31), some (vi l1), some (vi l2), some (vi (l3 + 1))]) (pc' := 232) d_Mod_close_229 rfl rfl (by decide) kI_1 rfl rfl ?_
        refine G.goto (tgt := 184) d_Mod_close_232 (by decide) ?_
        exact hrec184 l2 (l3 + 1) s1
      · refine G.aload_n (pc' := 221) d_Mod_close_220 rfl rfl ?_
        refine G.get (pc' := 224) d_Mod_close_221 rfl fg_Mod_77 (HX_31 _ _) rfl ?_
        refine G.iload_n (pc' := 225) d_Mod_close_224 rfl rfl ?_
        refine G.iload_n (pc' := 226) d_Mod_close_225 rfl rfl ?_
        refine G.iast (s' := wr s1 54 (ix l3) l1) (pc' := 227) d_Mod_close_226 rfl (HX_54 _ _) (HXa_54 _ _ _ _) ?_
        refine G.iconst (v := 1) (pc' := 228) d_Mod_close_227 rfl kI_1 ?_
        refine G.istore_n (ρ' := [some (vr 31), some (vi l1), some (vi 1), some (vi l3)]) (pc' := 229) d_Mod_close_228 rfl (by decide) rfl ?_
        refine G.iinc (w := 1) (v := l3 + 1) (ρ' := [some (vr 31), some (vi l1), some (vi 1), some (vi (l3 + 1))]) (pc' := 232) d_Mod_close_229 rfl rfl (by decide) kI_1 rfl rfl ?_
        refine G.goto (tgt := 184) d_Mod_close_232 (by decide) ?_
        exact hrec184 1 (l3 + 1) (wr s1 54 (ix l3) l1)
theorem t_Mod_close_131 {R : List AC} (rec67 : Int32 → Int32 → Sg → Ro) (l1 : Int32) (hrec67 : ∀ (l1 l2 : Int32) (s : Sg), Gd q_Mod_close none 67 [some (vr 31), some (vi l1), some (vi l2), none] [] s R 0 0 (rec67 l1 l2 s)) : ∀ (l2 l3 : Int32) (s : Sg), Gd q_Mod_close none 131 [some (vr 31), some (vi l1), some (vi l2), some (vi l3)] [] s R 0 0 (f_Mod_close_131 rec67 l1 l2 l3 s) := by
  intro l2 l3 s
  unfold f_Mod_close_131
  refine G.loop2 (rf := fun l2 l3 => [some (vr 31), some (vi l1), some (vi l2), some (vi l3)]) ?_ 4096 l2 l3 s
  intro rec131 hrec131 l2 l3 s
  refine G.iload_n (pc' := 132) d_Mod_close_131 rfl rfl ?_
  refine G.iconst (v := 2) (pc' := 133) d_Mod_close_132 rfl kI_2 ?_
  refine G.aload_n (pc' := 134) d_Mod_close_133 rfl rfl ?_
  refine G.get (pc' := 137) d_Mod_close_134 rfl fg_Mod_149 (HX_31 _ _) rfl ?_
  refine G.imul (pc' := 138) d_Mod_close_137 rfl ?_
  refine G.icmp_ge (pc' := 141) (tgt := 182) d_Mod_close_138 rfl (by decide) ?_ ?_
  · refine G.iconst (v := 0) (pc' := 183) d_Mod_close_182 rfl kI_0 ?_
    refine G.istore_n (ρ' := [some (vr 31), some (vi l1), some (vi l2), some (vi 0)]) (pc' := 184) d_Mod_close_183 rfl (by decide) rfl ?_
    exact t_Mod_close_184 rec67 l1 hrec67 l2 0 s
  · refine G.aload_n (pc' := 142) d_Mod_close_141 rfl rfl ?_
    refine G.get (pc' := 145) d_Mod_close_142 rfl fg_Mod_74 (HX_31 _ _) rfl ?_
    refine G.iload_n (pc' := 146) d_Mod_close_145 rfl rfl ?_
    refine G.iald (pc' := 147) d_Mod_close_146 rfl (HX_53 _ _) ?_
    refine G.if_gt (pc' := 150) (tgt := 176) d_Mod_close_147 rfl (by decide) ?_ ?_
    · refine G.iinc (w := 1) (v := l3 + 1) (ρ' := [some (vr 31), some (vi l1), some (vi l2), some (vi (l3 + 1))]) (pc' := 179) d_Mod_close_176 rfl rfl (by decide) kI_1 rfl rfl ?_
      refine G.goto (tgt := 131) d_Mod_close_179 (by decide) ?_
      exact hrec131 l2 (l3 + 1) s
    · refine G.aload_n (pc' := 151) d_Mod_close_150 rfl rfl ?_
      refine G.iload_n (pc' := 152) d_Mod_close_151 rfl rfl ?_
      refine G.iconst (v := 2) (pc' := 153) d_Mod_close_152 rfl kI_2 ?_
      refine G.idivK (by decide) (pc' := 154) d_Mod_close_153 rfl ?_
      refine G.iload_n (pc' := 155) d_Mod_close_154 rfl rfl ?_
      refine G.iconst (v := 2) (pc' := 156) d_Mod_close_155 rfl kI_2 ?_
      refine G.iremK (by decide) (pc' := 157) d_Mod_close_156 rfl ?_
      refine G.iload_n (pc' := 158) d_Mod_close_157 rfl rfl ?_
      refine G.callVi (As := [vi (l3 / 2), vi (l3 - l3 / 2 * 2), vi l1]) (n := 3) (i := 31) (ci := 8) (st := []) (t_Mod_comesLive (l3 / 2) (l3 - l3 / 2 * 2) l1 s _) (pc' := 161) d_Mod_close_158 rfl lm_Mod_190 mk_Mod_comesLive mv_Mod_comesLive ⟨rfl, rfl⟩ ⟨by decide, by decide⟩ (HX_31 _ _) rfl rfl rfl rfl ⟨Nat.le_refl _, Nat.le_refl _⟩ rfl (fun v1 s1 => ?_)
      refine G.if_ne (pc' := 164) (tgt := 167) d_Mod_close_161 rfl (by decide) ?_ ?_
      · refine G.goto (tgt := 176) d_Mod_close_164 (by decide) ?_
        refine G.iinc (w := 1) (v := l3 + 1) (ρ' := [some (vr 31), some (vi l1), some (vi l2), some (vi (l3 + 1))]) (pc' := 179) d_Mod_close_176 rfl rfl (by decide) kI_1 rfl rfl ?_
        refine G.goto (tgt := 131) d_Mod_close_179 (by decide) ?_
        exact hrec131 l2 (l3 + 1) s1
      · refine G.aload_n (pc' := 168) d_Mod_close_167 rfl rfl ?_
        refine G.get (pc' := 171) d_Mod_close_168 rfl fg_Mod_74 (HX_31 _ _) rfl ?_
        refine G.iload_n (pc' := 172) d_Mod_close_171 rfl rfl ?_
        refine G.iload_n (pc' := 173) d_Mod_close_172 rfl rfl ?_
        refine G.iast (s' := wr s1 53 (ix l3) l1) (pc' := 174) d_Mod_close_173 rfl (HX_53 _ _) (HXa_53 _ _ _ _) ?_
        refine G.iconst (v := 1) (pc' := 175) d_Mod_close_174 rfl kI_1 ?_
        refine G.istore_n (ρ' := [some (vr 31), some (vi l1), some (vi 1), some (vi l3)]) (pc' := 176) d_Mod_close_175 rfl (by decide) rfl ?_
        refine G.iinc (w := 1) (v := l3 + 1) (ρ' := [some (vr 31), some (vi l1), some (vi 1), some (vi (l3 + 1))]) (pc' := 179) d_Mod_close_176 rfl rfl (by decide) kI_1 rfl rfl ?_
        refine G.goto (tgt := 131) d_Mod_close_179 (by decide) ?_
        exact hrec131 1 (l3 + 1) (wr s1 53 (ix l3) l1)
theorem t_Mod_close_78 {R : List AC} (rec67 : Int32 → Int32 → Sg → Ro) (l1 : Int32) (hrec67 : ∀ (l1 l2 : Int32) (s : Sg), Gd q_Mod_close none 67 [some (vr 31), some (vi l1), some (vi l2), none] [] s R 0 0 (rec67 l1 l2 s)) : ∀ (l2 l3 : Int32) (s : Sg), Gd q_Mod_close none 78 [some (vr 31), some (vi l1), some (vi l2), some (vi l3)] [] s R 0 0 (f_Mod_close_78 rec67 l1 l2 l3 s) := by
  intro l2 l3 s
  unfold f_Mod_close_78
  refine G.loop2 (rf := fun l2 l3 => [some (vr 31), some (vi l1), some (vi l2), some (vi l3)]) ?_ 4096 l2 l3 s
  intro rec78 hrec78 l2 l3 s
  refine G.iload_n (pc' := 79) d_Mod_close_78 rfl rfl ?_
  refine G.iconst (v := 2) (pc' := 80) d_Mod_close_79 rfl kI_2 ?_
  refine G.aload_n (pc' := 81) d_Mod_close_80 rfl rfl ?_
  refine G.get (pc' := 84) d_Mod_close_81 rfl fg_Mod_183 (HX_31 _ _) rfl ?_
  refine G.imul (pc' := 85) d_Mod_close_84 rfl ?_
  refine G.icmp_ge (pc' := 88) (tgt := 129) d_Mod_close_85 rfl (by decide) ?_ ?_
  · refine G.iconst (v := 0) (pc' := 130) d_Mod_close_129 rfl kI_0 ?_
    refine G.istore_n (ρ' := [some (vr 31), some (vi l1), some (vi l2), some (vi 0)]) (pc' := 131) d_Mod_close_130 rfl (by decide) rfl ?_
    exact t_Mod_close_131 rec67 l1 hrec67 l2 0 s
  · refine G.aload_n (pc' := 89) d_Mod_close_88 rfl rfl ?_
    refine G.get (pc' := 92) d_Mod_close_89 rfl fg_Mod_71 (HX_31 _ _) rfl ?_
    refine G.iload_n (pc' := 93) d_Mod_close_92 rfl rfl ?_
    refine G.iald (pc' := 94) d_Mod_close_93 rfl (HX_52 _ _) ?_
    refine G.if_gt (pc' := 97) (tgt := 123) d_Mod_close_94 rfl (by decide) ?_ ?_
    · refine G.iinc (w := 1) (v := l3 + 1) (ρ' := [some (vr 31), some (vi l1), some (vi l2), some (vi (l3 + 1))]) (pc' := 126) d_Mod_close_123 rfl rfl (by decide) kI_1 rfl rfl ?_
      refine G.goto (tgt := 78) d_Mod_close_126 (by decide) ?_
      exact hrec78 l2 (l3 + 1) s
    · refine G.aload_n (pc' := 98) d_Mod_close_97 rfl rfl ?_
      refine G.iload_n (pc' := 99) d_Mod_close_98 rfl rfl ?_
      refine G.iconst (v := 2) (pc' := 100) d_Mod_close_99 rfl kI_2 ?_
      refine G.idivK (by decide) (pc' := 101) d_Mod_close_100 rfl ?_
      refine G.iload_n (pc' := 102) d_Mod_close_101 rfl rfl ?_
      refine G.iconst (v := 2) (pc' := 103) d_Mod_close_102 rfl kI_2 ?_
      refine G.iremK (by decide) (pc' := 104) d_Mod_close_103 rfl ?_
      refine G.iload_n (pc' := 105) d_Mod_close_104 rfl rfl ?_
      refine G.callVi (As := [vi (l3 / 2), vi (l3 - l3 / 2 * 2), vi l1]) (n := 3) (i := 31) (ci := 8) (st := []) (t_Mod_comesThere (l3 / 2) (l3 - l3 / 2 * 2) l1 s _) (pc' := 108) d_Mod_close_105 rfl lm_Mod_186 mk_Mod_comesThere mv_Mod_comesThere ⟨rfl, rfl⟩ ⟨by decide, by decide⟩ (HX_31 _ _) rfl rfl rfl rfl ⟨Nat.le_refl _, Nat.le_refl _⟩ rfl (fun v1 s1 => ?_)
      refine G.if_ne (pc' := 111) (tgt := 114) d_Mod_close_108 rfl (by decide) ?_ ?_
      · refine G.goto (tgt := 123) d_Mod_close_111 (by decide) ?_
        refine G.iinc (w := 1) (v := l3 + 1) (ρ' := [some (vr 31), some (vi l1), some (vi l2), some (vi (l3 + 1))]) (pc' := 126) d_Mod_close_123 rfl rfl (by decide) kI_1 rfl rfl ?_
        refine G.goto (tgt := 78) d_Mod_close_126 (by decide) ?_
        exact hrec78 l2 (l3 + 1) s1
      · refine G.aload_n (pc' := 115) d_Mod_close_114 rfl rfl ?_
        refine G.get (pc' := 118) d_Mod_close_115 rfl fg_Mod_71 (HX_31 _ _) rfl ?_
        refine G.iload_n (pc' := 119) d_Mod_close_118 rfl rfl ?_
        refine G.iload_n (pc' := 120) d_Mod_close_119 rfl rfl ?_
        refine G.iast (s' := wr s1 52 (ix l3) l1) (pc' := 121) d_Mod_close_120 rfl (HX_52 _ _) (HXa_52 _ _ _ _) ?_
        refine G.iconst (v := 1) (pc' := 122) d_Mod_close_121 rfl kI_1 ?_
        refine G.istore_n (ρ' := [some (vr 31), some (vi l1), some (vi 1), some (vi l3)]) (pc' := 123) d_Mod_close_122 rfl (by decide) rfl ?_
        refine G.iinc (w := 1) (v := l3 + 1) (ρ' := [some (vr 31), some (vi l1), some (vi 1), some (vi (l3 + 1))]) (pc' := 126) d_Mod_close_123 rfl rfl (by decide) kI_1 rfl rfl ?_
        refine G.goto (tgt := 78) d_Mod_close_126 (by decide) ?_
        exact hrec78 1 (l3 + 1) (wr s1 52 (ix l3) l1)
theorem t_Mod_close_67 {R : List AC}  : ∀ (l1 l2 : Int32) (s : Sg), Gd q_Mod_close none 67 [some (vr 31), some (vi l1), some (vi l2), none] [] s R 0 0 (f_Mod_close_67 l1 l2 s) := by
  intro l1 l2 s
  unfold f_Mod_close_67
  refine G.loop2 (rf := fun l1 l2 => [some (vr 31), some (vi l1), some (vi l2), none]) ?_ 4096 l1 l2 s
  intro rec67 hrec67 l1 l2 s
  refine G.iload_n (pc' := 68) d_Mod_close_67 rfl rfl ?_
  refine G.if_eq (pc' := 71) (tgt := 238) d_Mod_close_68 rfl (by decide) ?_ ?_
  · refine G.iload_n (pc' := 239) d_Mod_close_238 rfl rfl ?_
    refine G.iconst (v := 1) (pc' := 240) d_Mod_close_239 rfl kI_1 ?_
    refine G.isub (pc' := 241) d_Mod_close_240 rfl ?_
    exact G.iret d_Mod_close_241 rfl ⟨Nat.le_refl _, Nat.le_refl _⟩
  · refine G.iinc (w := 1) (v := l1 + 1) (ρ' := [some (vr 31), some (vi (l1 + 1)), some (vi l2), none]) (pc' := 74) d_Mod_close_71 rfl rfl (by decide) kI_1 rfl rfl ?_
    refine G.iconst (v := 0) (pc' := 75) d_Mod_close_74 rfl kI_0 ?_
    refine G.istore_n (ρ' := [some (vr 31), some (vi (l1 + 1)), some (vi 0), none]) (pc' := 76) d_Mod_close_75 rfl (by decide) rfl ?_
    refine G.iconst (v := 0) (pc' := 77) d_Mod_close_76 rfl kI_0 ?_
    refine G.istore_n (ρ' := [some (vr 31), some (vi (l1 + 1)), some (vi 0), some (vi 0)]) (pc' := 78) d_Mod_close_77 rfl (by decide) rfl ?_
    exact t_Mod_close_78 rec67 (l1 + 1) hrec67 0 0 s
theorem t_Mod_close_44 {R : List AC}  : ∀ (l1 : Int32) (s : Sg), Gd q_Mod_close none 44 [some (vr 31), some (vi l1), none, none] [] s R 0 0 (f_Mod_close_44 l1 s) := by
  intro l1 s
  unfold f_Mod_close_44
  refine G.loop1 (rf := fun l1 => [some (vr 31), some (vi l1), none, none]) ?_ 4096 l1 s
  intro rec44 hrec44 l1 s
  refine G.iload_n (pc' := 45) d_Mod_close_44 rfl rfl ?_
  refine G.bipush (v := 120) (pc' := 47) d_Mod_close_45 rfl kB_120 ?_
  refine G.icmp_ge (pc' := 50) (tgt := 63) d_Mod_close_47 rfl (by decide) ?_ ?_
  · refine G.iconst (v := 0) (pc' := 64) d_Mod_close_63 rfl kI_0 ?_
    refine G.istore_n (ρ' := [some (vr 31), some (vi 0), none, none]) (pc' := 65) d_Mod_close_64 rfl (by decide) rfl ?_
    refine G.iconst (v := 1) (pc' := 66) d_Mod_close_65 rfl kI_1 ?_
    refine G.istore_n (ρ' := [some (vr 31), some (vi 0), some (vi 1), none]) (pc' := 67) d_Mod_close_66 rfl (by decide) rfl ?_
    exact t_Mod_close_67 0 1 s
  · refine G.aload_n (pc' := 51) d_Mod_close_50 rfl rfl ?_
    refine G.get (pc' := 54) d_Mod_close_51 rfl fg_Mod_77 (HX_31 _ _) rfl ?_
    refine G.iload_n (pc' := 55) d_Mod_close_54 rfl rfl ?_
    refine G.iconst (v := 0) (pc' := 56) d_Mod_close_55 rfl kI_0 ?_
    refine G.iast (s' := wr s 54 (ix l1) 0) (pc' := 57) d_Mod_close_56 rfl (HX_54 _ _) (HXa_54 _ _ _ _) ?_
    refine G.iinc (w := 1) (v := l1 + 1) (ρ' := [some (vr 31), some (vi (l1 + 1)), none, none]) (pc' := 60) d_Mod_close_57 rfl rfl (by decide) kI_1 rfl rfl ?_
    refine G.goto (tgt := 44) d_Mod_close_60 (by decide) ?_
    exact hrec44 (l1 + 1) (wr s 54 (ix l1) 0)
theorem t_Mod_close_23 {R : List AC}  : ∀ (l1 : Int32) (s : Sg), Gd q_Mod_close none 23 [some (vr 31), some (vi l1), none, none] [] s R 0 0 (f_Mod_close_23 l1 s) := by
  intro l1 s
  unfold f_Mod_close_23
  refine G.loop1 (rf := fun l1 => [some (vr 31), some (vi l1), none, none]) ?_ 4096 l1 s
  intro rec23 hrec23 l1 s
  refine G.iload_n (pc' := 24) d_Mod_close_23 rfl rfl ?_
  refine G.bipush (v := 80) (pc' := 26) d_Mod_close_24 rfl kB_80 ?_
  refine G.icmp_ge (pc' := 29) (tgt := 42) d_Mod_close_26 rfl (by decide) ?_ ?_
  · refine G.iconst (v := 0) (pc' := 43) d_Mod_close_42 rfl kI_0 ?_
    refine G.istore_n (ρ' := [some (vr 31), some (vi 0), none, none]) (pc' := 44) d_Mod_close_43 rfl (by decide) rfl ?_
    exact t_Mod_close_44 0 s
  · refine G.aload_n (pc' := 30) d_Mod_close_29 rfl rfl ?_
    refine G.get (pc' := 33) d_Mod_close_30 rfl fg_Mod_74 (HX_31 _ _) rfl ?_
    refine G.iload_n (pc' := 34) d_Mod_close_33 rfl rfl ?_
    refine G.iconst (v := 0) (pc' := 35) d_Mod_close_34 rfl kI_0 ?_
    refine G.iast (s' := wr s 53 (ix l1) 0) (pc' := 36) d_Mod_close_35 rfl (HX_53 _ _) (HXa_53 _ _ _ _) ?_
    refine G.iinc (w := 1) (v := l1 + 1) (ρ' := [some (vr 31), some (vi (l1 + 1)), none, none]) (pc' := 39) d_Mod_close_36 rfl rfl (by decide) kI_1 rfl rfl ?_
    refine G.goto (tgt := 23) d_Mod_close_39 (by decide) ?_
    exact hrec23 (l1 + 1) (wr s 53 (ix l1) 0)
theorem t_Mod_close_2 {R : List AC}  : ∀ (l1 : Int32) (s : Sg), Gd q_Mod_close none 2 [some (vr 31), some (vi l1), none, none] [] s R 0 0 (f_Mod_close_2 l1 s) := by
  intro l1 s
  unfold f_Mod_close_2
  refine G.loop1 (rf := fun l1 => [some (vr 31), some (vi l1), none, none]) ?_ 4096 l1 s
  intro rec2 hrec2 l1 s
  refine G.iload_n (pc' := 3) d_Mod_close_2 rfl rfl ?_
  refine G.bipush (v := 20) (pc' := 5) d_Mod_close_3 rfl kB_20 ?_
  refine G.icmp_ge (pc' := 8) (tgt := 21) d_Mod_close_5 rfl (by decide) ?_ ?_
  · refine G.iconst (v := 0) (pc' := 22) d_Mod_close_21 rfl kI_0 ?_
    refine G.istore_n (ρ' := [some (vr 31), some (vi 0), none, none]) (pc' := 23) d_Mod_close_22 rfl (by decide) rfl ?_
    exact t_Mod_close_23 0 s
  · refine G.aload_n (pc' := 9) d_Mod_close_8 rfl rfl ?_
    refine G.get (pc' := 12) d_Mod_close_9 rfl fg_Mod_71 (HX_31 _ _) rfl ?_
    refine G.iload_n (pc' := 13) d_Mod_close_12 rfl rfl ?_
    refine G.iconst (v := 0) (pc' := 14) d_Mod_close_13 rfl kI_0 ?_
    refine G.iast (s' := wr s 52 (ix l1) 0) (pc' := 15) d_Mod_close_14 rfl (HX_52 _ _) (HXa_52 _ _ _ _) ?_
    refine G.iinc (w := 1) (v := l1 + 1) (ρ' := [some (vr 31), some (vi (l1 + 1)), none, none]) (pc' := 18) d_Mod_close_15 rfl rfl (by decide) kI_1 rfl rfl ?_
    refine G.goto (tgt := 2) d_Mod_close_18 (by decide) ?_
    exact hrec2 (l1 + 1) (wr s 52 (ix l1) 0)
theorem t_Mod_close (s : Sg) (R : List AC) : Ct q_Mod_close [vr 31] s R (f_Mod_close s) := by
  refine Ct.of (by decide) rfl (ρ := [some (vr 31), none, none, none]) rfl ?_
  unfold f_Mod_close
  refine G.iconst (v := 0) (pc' := 1) d_Mod_close_0 rfl kI_0 ?_
  refine G.istore_n (ρ' := [some (vr 31), some (vi 0), none, none]) (pc' := 2) d_Mod_close_1 rfl (by decide) rfl ?_
  exact t_Mod_close_2 0 s
theorem t_Mod_run_157 {R : List AC}  (l2 : Int32) : ∀ (l3 : Int32) (s : Sg), Gd q_Mod_run none 157 [some (vr 31), none, some (vi l2), some (vi l3)] [] s R 0 0 (f_Mod_run_157 l2 l3 s) := by
  intro l3 s
  unfold f_Mod_run_157
  refine G.loop1 (rf := fun l3 => [some (vr 31), none, some (vi l2), some (vi l3)]) ?_ 4096 l3 s
  intro rec157 hrec157 l3 s
  refine G.iload_n (pc' := 158) d_Mod_run_157 rfl rfl ?_
  refine G.bipush (v := 120) (pc' := 160) d_Mod_run_158 rfl kB_120 ?_
  refine G.icmp_ge (pc' := 163) (tgt := 181) d_Mod_run_160 rfl (by decide) ?_ ?_
  · refine G.iload_n (pc' := 182) d_Mod_run_181 rfl rfl ?_
    exact G.iret d_Mod_run_182 rfl ⟨Nat.le_refl _, Nat.le_refl _⟩
  · refine G.aload_n (pc' := 164) d_Mod_run_163 rfl rfl ?_
    refine G.get (pc' := 167) d_Mod_run_164 rfl fg_Mod_86 (HX_31 _ _) rfl ?_
    refine G.iload_n (pc' := 168) d_Mod_run_167 rfl rfl ?_
    refine G.aload_n (pc' := 169) d_Mod_run_168 rfl rfl ?_
    refine G.get (pc' := 172) d_Mod_run_169 rfl fg_Mod_77 (HX_31 _ _) rfl ?_
    refine G.iload_n (pc' := 173) d_Mod_run_172 rfl rfl ?_
    refine G.iald (pc' := 174) d_Mod_run_173 rfl (HX_54 _ _) ?_
    refine G.iast (s' := wr s 57 (ix l3) (s 54 (ix l3))) (pc' := 175) d_Mod_run_174 rfl (HX_57 _ _) (HXa_57 _ _ _ _) ?_
    refine G.iinc (w := 1) (v := l3 + 1) (ρ' := [some (vr 31), none, some (vi l2), some (vi (l3 + 1))]) (pc' := 178) d_Mod_run_175 rfl rfl (by decide) kI_1 rfl rfl ?_
    refine G.goto (tgt := 157) d_Mod_run_178 (by decide) ?_
    exact hrec157 (l3 + 1) (wr s 57 (ix l3) (s 54 (ix l3)))
theorem t_Mod_run_131 {R : List AC}  (l2 : Int32) : ∀ (l3 : Int32) (s : Sg), Gd q_Mod_run none 131 [some (vr 31), none, some (vi l2), some (vi l3)] [] s R 0 0 (f_Mod_run_131 l2 l3 s) := by
  intro l3 s
  unfold f_Mod_run_131
  refine G.loop1 (rf := fun l3 => [some (vr 31), none, some (vi l2), some (vi l3)]) ?_ 4096 l3 s
  intro rec131 hrec131 l3 s
  refine G.iload_n (pc' := 132) d_Mod_run_131 rfl rfl ?_
  refine G.bipush (v := 80) (pc' := 134) d_Mod_run_132 rfl kB_80 ?_
  refine G.icmp_ge (pc' := 137) (tgt := 155) d_Mod_run_134 rfl (by decide) ?_ ?_
  · refine G.iconst (v := 0) (pc' := 156) d_Mod_run_155 rfl kI_0 ?_
    refine G.istore_n (ρ' := [some (vr 31), none, some (vi l2), some (vi 0)]) (pc' := 157) d_Mod_run_156 rfl (by decide) rfl ?_
    exact t_Mod_run_157 l2 0 s
  · refine G.aload_n (pc' := 138) d_Mod_run_137 rfl rfl ?_
    refine G.get (pc' := 141) d_Mod_run_138 rfl fg_Mod_83 (HX_31 _ _) rfl ?_
    refine G.iload_n (pc' := 142) d_Mod_run_141 rfl rfl ?_
    refine G.aload_n (pc' := 143) d_Mod_run_142 rfl rfl ?_
    refine G.get (pc' := 146) d_Mod_run_143 rfl fg_Mod_74 (HX_31 _ _) rfl ?_
    refine G.iload_n (pc' := 147) d_Mod_run_146 rfl rfl ?_
    refine G.iald (pc' := 148) d_Mod_run_147 rfl (HX_53 _ _) ?_
    refine G.iast (s' := wr s 56 (ix l3) (s 53 (ix l3))) (pc' := 149) d_Mod_run_148 rfl (HX_56 _ _) (HXa_56 _ _ _ _) ?_
    refine G.iinc (w := 1) (v := l3 + 1) (ρ' := [some (vr 31), none, some (vi l2), some (vi (l3 + 1))]) (pc' := 152) d_Mod_run_149 rfl rfl (by decide) kI_1 rfl rfl ?_
    refine G.goto (tgt := 131) d_Mod_run_152 (by decide) ?_
    exact hrec131 (l3 + 1) (wr s 56 (ix l3) (s 53 (ix l3)))
theorem t_Mod_run_105 {R : List AC}  (l2 : Int32) : ∀ (l3 : Int32) (s : Sg), Gd q_Mod_run none 105 [some (vr 31), none, some (vi l2), some (vi l3)] [] s R 0 0 (f_Mod_run_105 l2 l3 s) := by
  intro l3 s
  unfold f_Mod_run_105
  refine G.loop1 (rf := fun l3 => [some (vr 31), none, some (vi l2), some (vi l3)]) ?_ 4096 l3 s
  intro rec105 hrec105 l3 s
  refine G.iload_n (pc' := 106) d_Mod_run_105 rfl rfl ?_
  refine G.bipush (v := 20) (pc' := 108) d_Mod_run_106 rfl kB_20 ?_
  refine G.icmp_ge (pc' := 111) (tgt := 129) d_Mod_run_108 rfl (by decide) ?_ ?_
  · refine G.iconst (v := 0) (pc' := 130) d_Mod_run_129 rfl kI_0 ?_
    refine G.istore_n (ρ' := [some (vr 31), none, some (vi l2), some (vi 0)]) (pc' := 131) d_Mod_run_130 rfl (by decide) rfl ?_
    exact t_Mod_run_131 l2 0 s
  · refine G.aload_n (pc' := 112) d_Mod_run_111 rfl rfl ?_
    refine G.get (pc' := 115) d_Mod_run_112 rfl fg_Mod_80 (HX_31 _ _) rfl ?_
    refine G.iload_n (pc' := 116) d_Mod_run_115 rfl rfl ?_
    refine G.aload_n (pc' := 117) d_Mod_run_116 rfl rfl ?_
    refine G.get (pc' := 120) d_Mod_run_117 rfl fg_Mod_71 (HX_31 _ _) rfl ?_
    refine G.iload_n (pc' := 121) d_Mod_run_120 rfl rfl ?_
    refine G.iald (pc' := 122) d_Mod_run_121 rfl (HX_52 _ _) ?_
    refine G.iast (s' := wr s 55 (ix l3) (s 52 (ix l3))) (pc' := 123) d_Mod_run_122 rfl (HX_55 _ _) (HXa_55 _ _ _ _) ?_
    refine G.iinc (w := 1) (v := l3 + 1) (ρ' := [some (vr 31), none, some (vi l2), some (vi (l3 + 1))]) (pc' := 126) d_Mod_run_123 rfl rfl (by decide) kI_1 rfl rfl ?_
    refine G.goto (tgt := 105) d_Mod_run_126 (by decide) ?_
    exact hrec105 (l3 + 1) (wr s 55 (ix l3) (s 52 (ix l3)))
theorem t_Mod_run_64 {R : List AC}  : ∀ (l2 : Int32) (s : Sg), Gd q_Mod_run none 64 [some (vr 31), none, some (vi l2), none] [] s R 0 0 (f_Mod_run_64 l2 s) := by
  intro l2 s
  unfold f_Mod_run_64
  refine G.loop1 (rf := fun l2 => [some (vr 31), none, some (vi l2), none]) ?_ 4096 l2 s
  intro rec64 hrec64 l2 s
  refine G.iload_n (pc' := 65) d_Mod_run_64 rfl rfl ?_
  refine G.bipush (v := 10) (pc' := 67) d_Mod_run_65 rfl kB_10 ?_
  refine G.icmp_ge (pc' := 70) (tgt := 88) d_Mod_run_67 rfl (by decide) ?_ ?_
  · refine G.aload_n (pc' := 89) d_Mod_run_88 rfl rfl ?_
    refine G.iconst (v := 1) (pc' := 90) d_Mod_run_89 rfl kI_1 ?_
    refine G.put (s' := wr s 31 32 1) (pc' := 93) d_Mod_run_90 rfl fp_Mod_199 (Or.inr rfl) (HX_31 _ _) rfl (HXf_31_32 _ _ _) ?_
    refine G.aload_n (pc' := 94) d_Mod_run_93 rfl rfl ?_
    refine G.iconst (v := 0) (pc' := 95) d_Mod_run_94 rfl kI_0 ?_
    refine G.put (s' := wr (wr s 31 32 1) 31 33 0) (pc' := 98) d_Mod_run_95 rfl fp_Mod_114 (Or.inl rfl) (HX_31 _ _) rfl (HXf_31_33 _ _ _) ?_
    refine G.aload_n (pc' := 99) d_Mod_run_98 rfl rfl ?_
    refine G.callVi (As := []) (n := 0) (i := 31) (ci := 8) (st := []) (t_Mod_close (wr (wr s 31 32 1) 31 33 0) _) (pc' := 102) d_Mod_run_99 rfl lm_Mod_202 mk_Mod_close mv_Mod_close ⟨rfl, rfl⟩ ⟨by decide, by decide⟩ (HX_31 _ _) rfl rfl rfl rfl ⟨Nat.le_refl _, Nat.le_refl _⟩ rfl (fun v1 s1 => ?_)
    refine G.istore_n (ρ' := [some (vr 31), none, some (vi v1), none]) (pc' := 103) d_Mod_run_102 rfl (by decide) rfl ?_
    refine G.iconst (v := 0) (pc' := 104) d_Mod_run_103 rfl kI_0 ?_
    refine G.istore_n (ρ' := [some (vr 31), none, some (vi v1), some (vi 0)]) (pc' := 105) d_Mod_run_104 rfl (by decide) rfl ?_
    exact t_Mod_run_105 v1 0 s1
  · refine G.aload_n (pc' := 71) d_Mod_run_70 rfl rfl ?_
    refine G.get (pc' := 74) d_Mod_run_71 rfl fg_Mod_68 (HX_31 _ _) rfl ?_
    refine G.iload_n (pc' := 75) d_Mod_run_74 rfl rfl ?_
    refine G.aload_n (pc' := 76) d_Mod_run_75 rfl rfl ?_
    refine G.get (pc' := 79) d_Mod_run_76 rfl fg_Mod_13 (HX_31 _ _) rfl ?_
    refine G.iload_n (pc' := 80) d_Mod_run_79 rfl rfl ?_
    refine G.zald (pc' := 81) d_Mod_run_80 rfl (HX_33 _ _) ?_
    refine G.zast (s' := wr s 51 (ix l2) (s 33 (ix l2))) (pc' := 82) d_Mod_run_81 rfl (HX_51 _ _) (HXa_51 _ _ _ _) ?_
    refine G.iinc (w := 1) (v := l2 + 1) (ρ' := [some (vr 31), none, some (vi (l2 + 1)), none]) (pc' := 85) d_Mod_run_82 rfl rfl (by decide) kI_1 rfl rfl ?_
    refine G.goto (tgt := 64) d_Mod_run_85 (by decide) ?_
    exact hrec64 (l2 + 1) (wr s 51 (ix l2) (s 33 (ix l2)))
theorem t_Mod_run (l1 : Int32) (s : Sg) (R : List AC) : Ct q_Mod_run [vr 31, vi l1] s R (f_Mod_run l1 s) := by
  refine Ct.of (by decide) rfl (ρ := [some (vr 31), some (vi l1), none, none]) rfl ?_
  unfold f_Mod_run
  refine G.aload_n (pc' := 1) d_Mod_run_0 rfl rfl ?_
  refine G.iconst (v := 0) (pc' := 2) d_Mod_run_1 rfl kI_0 ?_
  refine G.put (s' := wr s 31 0 0) (pc' := 5) d_Mod_run_2 rfl fp_Mod_102 trivial (HX_31 _ _) rfl (HXf_31_0 _ _ _) ?_
  refine G.iload_n (pc' := 6) d_Mod_run_5 rfl rfl ?_
  refine G.if_lt (pc' := 9) (tgt := 15) d_Mod_run_6 rfl (by decide) ?_ ?_
  · refine G.iconst (v := (-1)) (pc' := 16) d_Mod_run_15 rfl kI_m1 ?_
    exact G.iret d_Mod_run_16 rfl ⟨Nat.le_refl _, Nat.le_refl _⟩
  · refine G.iload_n (pc' := 10) d_Mod_run_9 rfl rfl ?_
    refine G.bipush (v := 8) (pc' := 12) d_Mod_run_10 rfl kB_8 ?_
    refine G.icmp_lt (pc' := 15) (tgt := 17) d_Mod_run_12 rfl (by decide) ?_ ?_
    · refine G.aload_n (pc' := 18) d_Mod_run_17 rfl rfl ?_
      refine G.iload_n (pc' := 19) d_Mod_run_18 rfl rfl ?_
      refine G.put (s' := wr (wr s 31 0 0) 31 30 l1) (pc' := 22) d_Mod_run_19 rfl fp_Mod_146 trivial (HX_31 _ _) rfl (HXf_31_30 _ _ _) ?_
      refine G.aload_n (pc' := 23) d_Mod_run_22 rfl rfl ?_
      refine G.aload_n (pc' := 24) d_Mod_run_23 rfl rfl ?_
      refine G.get (pc' := 27) d_Mod_run_24 rfl fg_Mod_105 (HX_31 _ _) rfl ?_
      refine G.eqv (w := vi (s 31 1)) rfl ?_
      refine G.put (s' := wr (wr (wr s 31 0 0) 31 30 l1) 31 25 (s 31 1)) (pc' := 30) d_Mod_run_27 rfl fp_Mod_183 trivial (HX_31 _ _) rfl (HXf_31_25 _ _ _) ?_
      refine G.aload_n (pc' := 31) d_Mod_run_30 rfl rfl ?_
      refine G.aload_n (pc' := 32) d_Mod_run_31 rfl rfl ?_
      refine G.get (pc' := 35) d_Mod_run_32 rfl fg_Mod_111 (HX_31 _ _) rfl ?_
      refine G.eqv (w := vi (s 31 2)) rfl ?_
      refine G.put (s' := wr (wr (wr (wr s 31 0 0) 31 30 l1) 31 25 (s 31 1)) 31 26 (s 31 2)) (pc' := 38) d_Mod_run_35 rfl fp_Mod_193 trivial (HX_31 _ _) rfl (HXf_31_26 _ _ _) ?_
      refine G.aload_n (pc' := 39) d_Mod_run_38 rfl rfl ?_
      refine G.aload_n (pc' := 40) d_Mod_run_39 rfl rfl ?_
      refine G.get (pc' := 43) d_Mod_run_40 rfl fg_Mod_108 (HX_31 _ _) rfl ?_
      refine G.eqv (w := vi (s 31 3)) rfl ?_
      refine G.put (s' := wr (wr (wr (wr (wr s 31 0 0) 31 30 l1) 31 25 (s 31 1)) 31 26 (s 31 2)) 31 27 (s 31 3)) (pc' := 46) d_Mod_run_43 rfl fp_Mod_149 trivial (HX_31 _ _) rfl (HXf_31_27 _ _ _) ?_
      refine G.aload_n (pc' := 47) d_Mod_run_46 rfl rfl ?_
      refine G.aload_n (pc' := 48) d_Mod_run_47 rfl rfl ?_
      refine G.get (pc' := 51) d_Mod_run_48 rfl fg_Mod_133 (HX_31 _ _) rfl ?_
      refine G.eqv (w := vi (s 31 4)) rfl ?_
      refine G.put (s' := wr (wr (wr (wr (wr (wr s 31 0 0) 31 30 l1) 31 25 (s 31 1)) 31 26 (s 31 2)) 31 27 (s 31 3)) 31 28 (s 31 4)) (pc' := 54) d_Mod_run_51 rfl fp_Mod_172 trivial (HX_31 _ _) rfl (HXf_31_28 _ _ _) ?_
      refine G.aload_n (pc' := 55) d_Mod_run_54 rfl rfl ?_
      refine G.aload_n (pc' := 56) d_Mod_run_55 rfl rfl ?_
      refine G.get (pc' := 59) d_Mod_run_56 rfl fg_Mod_143 (HX_31 _ _) rfl ?_
      refine G.eqv (w := vi (s 31 5)) rfl ?_
      refine G.put (s' := wr (wr (wr (wr (wr (wr (wr s 31 0 0) 31 30 l1) 31 25 (s 31 1)) 31 26 (s 31 2)) 31 27 (s 31 3)) 31 28 (s 31 4)) 31 29 (s 31 5)) (pc' := 62) d_Mod_run_59 rfl fp_Mod_162 trivial (HX_31 _ _) rfl (HXf_31_29 _ _ _) ?_
      refine G.iconst (v := 0) (pc' := 63) d_Mod_run_62 rfl kI_0 ?_
      refine G.istore_n (ρ' := [some (vr 31), some (vi l1), some (vi 0), none]) (pc' := 64) d_Mod_run_63 rfl (by decide) rfl ?_
      refine G.mask [true, false, true, false] (ρ' := [some (vr 31), none, some (vi 0), none]) rfl ?_
      exact t_Mod_run_64 0 (wr (wr (wr (wr (wr (wr (wr s 31 0 0) 31 30 l1) 31 25 (s 31 1)) 31 26 (s 31 2)) 31 27 (s 31 3)) 31 28 (s 31 4)) 31 29 (s 31 5))
    · refine G.iconst (v := (-1)) (pc' := 16) d_Mod_run_15 rfl kI_m1 ?_
      exact G.iret d_Mod_run_16 rfl ⟨Nat.le_refl _, Nat.le_refl _⟩
theorem t_Mod_isSide (l0 : Int32) (s : Sg) (R : List AC) : Ct q_Mod_isSide [vi l0] s R (f_Mod_isSide l0 s) := by
  refine Ct.of (by decide) rfl (ρ := [some (vi l0)]) rfl ?_
  unfold f_Mod_isSide
  refine G.iload_n (pc' := 1) d_Mod_isSide_0 rfl rfl ?_
  refine G.if_eq (pc' := 4) (tgt := 9) d_Mod_isSide_1 rfl (by decide) ?_ ?_
  · refine G.iconst (v := 1) (pc' := 10) d_Mod_isSide_9 rfl kI_1 ?_
    refine G.goto (tgt := 14) d_Mod_isSide_10 (by decide) ?_
    exact G.zretK (by decide) d_Mod_isSide_14 rfl ⟨Nat.le_refl _, Nat.le_refl _⟩
  · refine G.iload_n (pc' := 5) d_Mod_isSide_4 rfl rfl ?_
    refine G.iconst (v := 1) (pc' := 6) d_Mod_isSide_5 rfl kI_1 ?_
    refine G.icmp_ne (pc' := 9) (tgt := 13) d_Mod_isSide_6 rfl (by decide) ?_ ?_
    · refine G.iconst (v := 1) (pc' := 10) d_Mod_isSide_9 rfl kI_1 ?_
      refine G.goto (tgt := 14) d_Mod_isSide_10 (by decide) ?_
      exact G.zretK (by decide) d_Mod_isSide_14 rfl ⟨Nat.le_refl _, Nat.le_refl _⟩
    · refine G.iconst (v := 0) (pc' := 14) d_Mod_isSide_13 rfl kI_0 ?_
      exact G.zretK (by decide) d_Mod_isSide_14 rfl ⟨Nat.le_refl _, Nat.le_refl _⟩
theorem t_Mod_there (l1 l2 : Int32) (s : Sg) (R : List AC) : Ct q_Mod_there [vr 31, vi l1, vi l2] s R (f_Mod_there l1 l2 s) := by
  refine Ct.of (by decide) rfl (ρ := [some (vr 31), some (vi l1), some (vi l2)]) rfl ?_
  unfold f_Mod_there
  refine G.aload_n (pc' := 1) d_Mod_there_0 rfl rfl ?_
  refine G.iconst (v := 0) (pc' := 2) d_Mod_there_1 rfl kI_0 ?_
  refine G.put (s' := wr s 31 0 0) (pc' := 5) d_Mod_there_2 rfl fp_Mod_102 trivial (HX_31 _ _) rfl (HXf_31_0 _ _ _) ?_
  refine G.iload_n (pc' := 6) d_Mod_there_5 rfl rfl ?_
  refine G.if_lt (pc' := 9) (tgt := 24) d_Mod_there_6 rfl (by decide) ?_ ?_
  · refine G.iconst (v := 0) (pc' := 25) d_Mod_there_24 rfl kI_0 ?_
    refine G.goto (tgt := 38) d_Mod_there_25 (by decide) ?_
    exact G.iret d_Mod_there_38 rfl ⟨Nat.le_refl _, Nat.le_refl _⟩
  · refine G.iload_n (pc' := 10) d_Mod_there_9 rfl rfl ?_
    refine G.aload_n (pc' := 11) d_Mod_there_10 rfl rfl ?_
    refine G.get (pc' := 14) d_Mod_there_11 rfl fg_Mod_183 (HX_31 _ _) rfl ?_
    refine G.eqv (w := vi (s 31 25)) rfl ?_
    refine G.icmp_ge (pc' := 17) (tgt := 24) d_Mod_there_14 rfl (by decide) ?_ ?_
    · refine G.iconst (v := 0) (pc' := 25) d_Mod_there_24 rfl kI_0 ?_
      refine G.goto (tgt := 38) d_Mod_there_25 (by decide) ?_
      exact G.iret d_Mod_there_38 rfl ⟨Nat.le_refl _, Nat.le_refl _⟩
    · refine G.iload_n (pc' := 18) d_Mod_there_17 rfl rfl ?_
      refine G.callSi (As := [vi l2]) (n := 1) (st := []) (t_Mod_isSide l2 (wr s 31 0 0) _) (pc' := 21) d_Mod_there_18 rfl lm_Mod_206 mk_Mod_isSide sx_Mod_isSide ⟨rfl, rfl⟩ ⟨by decide, by decide⟩ rfl rfl rfl ⟨Nat.le_refl _, Nat.le_refl _⟩ rfl (fun v1 s1 => ?_)
      refine G.if_ne (pc' := 24) (tgt := 28) d_Mod_there_21 rfl (by decide) ?_ ?_
      · refine G.iconst (v := 0) (pc' := 25) d_Mod_there_24 rfl kI_0 ?_
        refine G.goto (tgt := 38) d_Mod_there_25 (by decide) ?_
        exact G.iret d_Mod_there_38 rfl ⟨Nat.le_refl _, Nat.le_refl _⟩
      · refine G.aload_n (pc' := 29) d_Mod_there_28 rfl rfl ?_
        refine G.get (pc' := 32) d_Mod_there_29 rfl fg_Mod_80 (HX_31 _ _) rfl ?_
        refine G.iconst (v := 2) (pc' := 33) d_Mod_there_32 rfl kI_2 ?_
        refine G.iload_n (pc' := 34) d_Mod_there_33 rfl rfl ?_
        refine G.imul (pc' := 35) d_Mod_there_34 rfl ?_
        refine G.iload_n (pc' := 36) d_Mod_there_35 rfl rfl ?_
        refine G.iadd (pc' := 37) d_Mod_there_36 rfl ?_
        refine G.iald (pc' := 38) d_Mod_there_37 rfl (HX_55 _ _) ?_
        exact G.iret d_Mod_there_38 rfl ⟨Nat.le_refl _, Nat.le_refl _⟩
theorem t_Mod_live (l1 l2 : Int32) (s : Sg) (R : List AC) : Ct q_Mod_live [vr 31, vi l1, vi l2] s R (f_Mod_live l1 l2 s) := by
  refine Ct.of (by decide) rfl (ρ := [some (vr 31), some (vi l1), some (vi l2)]) rfl ?_
  unfold f_Mod_live
  refine G.aload_n (pc' := 1) d_Mod_live_0 rfl rfl ?_
  refine G.iconst (v := 0) (pc' := 2) d_Mod_live_1 rfl kI_0 ?_
  refine G.put (s' := wr s 31 0 0) (pc' := 5) d_Mod_live_2 rfl fp_Mod_102 trivial (HX_31 _ _) rfl (HXf_31_0 _ _ _) ?_
  refine G.iload_n (pc' := 6) d_Mod_live_5 rfl rfl ?_
  refine G.if_lt (pc' := 9) (tgt := 24) d_Mod_live_6 rfl (by decide) ?_ ?_
  · refine G.iconst (v := 0) (pc' := 25) d_Mod_live_24 rfl kI_0 ?_
    refine G.goto (tgt := 38) d_Mod_live_25 (by decide) ?_
    exact G.iret d_Mod_live_38 rfl ⟨Nat.le_refl _, Nat.le_refl _⟩
  · refine G.iload_n (pc' := 10) d_Mod_live_9 rfl rfl ?_
    refine G.aload_n (pc' := 11) d_Mod_live_10 rfl rfl ?_
    refine G.get (pc' := 14) d_Mod_live_11 rfl fg_Mod_149 (HX_31 _ _) rfl ?_
    refine G.eqv (w := vi (s 31 27)) rfl ?_
    refine G.icmp_ge (pc' := 17) (tgt := 24) d_Mod_live_14 rfl (by decide) ?_ ?_
    · refine G.iconst (v := 0) (pc' := 25) d_Mod_live_24 rfl kI_0 ?_
      refine G.goto (tgt := 38) d_Mod_live_25 (by decide) ?_
      exact G.iret d_Mod_live_38 rfl ⟨Nat.le_refl _, Nat.le_refl _⟩
    · refine G.iload_n (pc' := 18) d_Mod_live_17 rfl rfl ?_
      refine G.callSi (As := [vi l2]) (n := 1) (st := []) (t_Mod_isSide l2 (wr s 31 0 0) _) (pc' := 21) d_Mod_live_18 rfl lm_Mod_206 mk_Mod_isSide sx_Mod_isSide ⟨rfl, rfl⟩ ⟨by decide, by decide⟩ rfl rfl rfl ⟨Nat.le_refl _, Nat.le_refl _⟩ rfl (fun v1 s1 => ?_)
      refine G.if_ne (pc' := 24) (tgt := 28) d_Mod_live_21 rfl (by decide) ?_ ?_
      · refine G.iconst (v := 0) (pc' := 25) d_Mod_live_24 rfl kI_0 ?_
        refine G.goto (tgt := 38) d_Mod_live_25 (by decide) ?_
        exact G.iret d_Mod_live_38 rfl ⟨Nat.le_refl _, Nat.le_refl _⟩
      · refine G.aload_n (pc' := 29) d_Mod_live_28 rfl rfl ?_
        refine G.get (pc' := 32) d_Mod_live_29 rfl fg_Mod_83 (HX_31 _ _) rfl ?_
        refine G.iconst (v := 2) (pc' := 33) d_Mod_live_32 rfl kI_2 ?_
        refine G.iload_n (pc' := 34) d_Mod_live_33 rfl rfl ?_
        refine G.imul (pc' := 35) d_Mod_live_34 rfl ?_
        refine G.iload_n (pc' := 36) d_Mod_live_35 rfl rfl ?_
        refine G.iadd (pc' := 37) d_Mod_live_36 rfl ?_
        refine G.iald (pc' := 38) d_Mod_live_37 rfl (HX_56 _ _) ?_
        exact G.iret d_Mod_live_38 rfl ⟨Nat.le_refl _, Nat.le_refl _⟩
theorem t_Mod_on (l1 l2 : Int32) (s : Sg) (R : List AC) : Ct q_Mod_on [vr 31, vi l1, vi l2] s R (f_Mod_on l1 l2 s) := by
  refine Ct.of (by decide) rfl (ρ := [some (vr 31), some (vi l1), some (vi l2)]) rfl ?_
  unfold f_Mod_on
  refine G.aload_n (pc' := 1) d_Mod_on_0 rfl rfl ?_
  refine G.iconst (v := 0) (pc' := 2) d_Mod_on_1 rfl kI_0 ?_
  refine G.put (s' := wr s 31 0 0) (pc' := 5) d_Mod_on_2 rfl fp_Mod_102 trivial (HX_31 _ _) rfl (HXf_31_0 _ _ _) ?_
  refine G.iload_n (pc' := 6) d_Mod_on_5 rfl rfl ?_
  refine G.if_lt (pc' := 9) (tgt := 24) d_Mod_on_6 rfl (by decide) ?_ ?_
  · refine G.iconst (v := 0) (pc' := 25) d_Mod_on_24 rfl kI_0 ?_
    refine G.goto (tgt := 38) d_Mod_on_25 (by decide) ?_
    exact G.iret d_Mod_on_38 rfl ⟨Nat.le_refl _, Nat.le_refl _⟩
  · refine G.iload_n (pc' := 10) d_Mod_on_9 rfl rfl ?_
    refine G.aload_n (pc' := 11) d_Mod_on_10 rfl rfl ?_
    refine G.get (pc' := 14) d_Mod_on_11 rfl fg_Mod_193 (HX_31 _ _) rfl ?_
    refine G.eqv (w := vi (s 31 26)) rfl ?_
    refine G.icmp_ge (pc' := 17) (tgt := 24) d_Mod_on_14 rfl (by decide) ?_ ?_
    · refine G.iconst (v := 0) (pc' := 25) d_Mod_on_24 rfl kI_0 ?_
      refine G.goto (tgt := 38) d_Mod_on_25 (by decide) ?_
      exact G.iret d_Mod_on_38 rfl ⟨Nat.le_refl _, Nat.le_refl _⟩
    · refine G.iload_n (pc' := 18) d_Mod_on_17 rfl rfl ?_
      refine G.callSi (As := [vi l2]) (n := 1) (st := []) (t_Mod_isSide l2 (wr s 31 0 0) _) (pc' := 21) d_Mod_on_18 rfl lm_Mod_206 mk_Mod_isSide sx_Mod_isSide ⟨rfl, rfl⟩ ⟨by decide, by decide⟩ rfl rfl rfl ⟨Nat.le_refl _, Nat.le_refl _⟩ rfl (fun v1 s1 => ?_)
      refine G.if_ne (pc' := 24) (tgt := 28) d_Mod_on_21 rfl (by decide) ?_ ?_
      · refine G.iconst (v := 0) (pc' := 25) d_Mod_on_24 rfl kI_0 ?_
        refine G.goto (tgt := 38) d_Mod_on_25 (by decide) ?_
        exact G.iret d_Mod_on_38 rfl ⟨Nat.le_refl _, Nat.le_refl _⟩
      · refine G.aload_n (pc' := 29) d_Mod_on_28 rfl rfl ?_
        refine G.get (pc' := 32) d_Mod_on_29 rfl fg_Mod_86 (HX_31 _ _) rfl ?_
        refine G.iconst (v := 2) (pc' := 33) d_Mod_on_32 rfl kI_2 ?_
        refine G.iload_n (pc' := 34) d_Mod_on_33 rfl rfl ?_
        refine G.imul (pc' := 35) d_Mod_on_34 rfl ?_
        refine G.iload_n (pc' := 36) d_Mod_on_35 rfl rfl ?_
        refine G.iadd (pc' := 37) d_Mod_on_36 rfl ?_
        refine G.iald (pc' := 38) d_Mod_on_37 rfl (HX_57 _ _) ?_
        exact G.iret d_Mod_on_38 rfl ⟨Nat.le_refl _, Nat.le_refl _⟩
theorem t_Mod_reasoned_75 {R : List AC}  (l1 l2 : Int32) : ∀ (l3 : Int32) (s : Sg), Gd q_Mod_reasoned none 75 [some (vr 31), some (vi l1), some (vi l2), some (vi l3)] [] s R 0 0 (f_Mod_reasoned_75 l1 l2 l3 s) := by
  intro l3 s
  unfold f_Mod_reasoned_75
  refine G.loop1 (rf := fun l3 => [some (vr 31), some (vi l1), some (vi l2), some (vi l3)]) ?_ 4096 l3 s
  intro rec75 hrec75 l3 s
  refine G.iload_n (pc' := 76) d_Mod_reasoned_75 rfl rfl ?_
  refine G.bipush (v := 120) (pc' := 78) d_Mod_reasoned_76 rfl kB_120 ?_
  refine G.icmp_ge (pc' := 81) (tgt := 99) d_Mod_reasoned_78 rfl (by decide) ?_ ?_
  · refine G.aload_n (pc' := 100) d_Mod_reasoned_99 rfl rfl ?_
    refine G.iload_n (pc' := 101) d_Mod_reasoned_100 rfl rfl ?_
    refine G.iload_n (pc' := 102) d_Mod_reasoned_101 rfl rfl ?_
    refine G.sipush (v := 1000) (pc' := 105) d_Mod_reasoned_102 rfl kS_1000 ?_
    refine G.callVv (As := [vi l1, vi l2, vi 1000]) (n := 3) (i := 31) (ci := 8) (st := []) (t_Mod_gather l1 l2 1000 s _) (pc' := 108) d_Mod_reasoned_105 rfl lm_Mod_179 mk_Mod_gather mv_Mod_gather ⟨rfl, rfl⟩ ⟨by decide, by decide⟩ (HX_31 _ _) rfl rfl rfl rfl ⟨Nat.le_refl _, Nat.le_refl _⟩ rfl (fun v1 s1 => ?_)
    refine G.iconst (v := 1) (pc' := 109) d_Mod_reasoned_108 rfl kI_1 ?_
    exact G.zretK (by decide) d_Mod_reasoned_109 rfl ⟨Nat.le_refl _, Nat.le_refl _⟩
  · refine G.aload_n (pc' := 82) d_Mod_reasoned_81 rfl rfl ?_
    refine G.get (pc' := 85) d_Mod_reasoned_82 rfl fg_Mod_77 (HX_31 _ _) rfl ?_
    refine G.iload_n (pc' := 86) d_Mod_reasoned_85 rfl rfl ?_
    refine G.aload_n (pc' := 87) d_Mod_reasoned_86 rfl rfl ?_
    refine G.get (pc' := 90) d_Mod_reasoned_87 rfl fg_Mod_86 (HX_31 _ _) rfl ?_
    refine G.iload_n (pc' := 91) d_Mod_reasoned_90 rfl rfl ?_
    refine G.iald (pc' := 92) d_Mod_reasoned_91 rfl (HX_57 _ _) ?_
    refine G.iast (s' := wr s 54 (ix l3) (s 57 (ix l3))) (pc' := 93) d_Mod_reasoned_92 rfl (HX_54 _ _) (HXa_54 _ _ _ _) ?_
    refine G.iinc (w := 1) (v := l3 + 1) (ρ' := [some (vr 31), some (vi l1), some (vi l2), some (vi (l3 + 1))]) (pc' := 96) d_Mod_reasoned_93 rfl rfl (by decide) kI_1 rfl rfl ?_
    refine G.goto (tgt := 75) d_Mod_reasoned_96 (by decide) ?_
    exact hrec75 (l3 + 1) (wr s 54 (ix l3) (s 57 (ix l3)))
theorem t_Mod_reasoned_49 {R : List AC}  (l1 l2 : Int32) : ∀ (l3 : Int32) (s : Sg), Gd q_Mod_reasoned none 49 [some (vr 31), some (vi l1), some (vi l2), some (vi l3)] [] s R 0 0 (f_Mod_reasoned_49 l1 l2 l3 s) := by
  intro l3 s
  unfold f_Mod_reasoned_49
  refine G.loop1 (rf := fun l3 => [some (vr 31), some (vi l1), some (vi l2), some (vi l3)]) ?_ 4096 l3 s
  intro rec49 hrec49 l3 s
  refine G.iload_n (pc' := 50) d_Mod_reasoned_49 rfl rfl ?_
  refine G.bipush (v := 80) (pc' := 52) d_Mod_reasoned_50 rfl kB_80 ?_
  refine G.icmp_ge (pc' := 55) (tgt := 73) d_Mod_reasoned_52 rfl (by decide) ?_ ?_
  · refine G.iconst (v := 0) (pc' := 74) d_Mod_reasoned_73 rfl kI_0 ?_
    refine G.istore_n (ρ' := [some (vr 31), some (vi l1), some (vi l2), some (vi 0)]) (pc' := 75) d_Mod_reasoned_74 rfl (by decide) rfl ?_
    exact t_Mod_reasoned_75 l1 l2 0 s
  · refine G.aload_n (pc' := 56) d_Mod_reasoned_55 rfl rfl ?_
    refine G.get (pc' := 59) d_Mod_reasoned_56 rfl fg_Mod_74 (HX_31 _ _) rfl ?_
    refine G.iload_n (pc' := 60) d_Mod_reasoned_59 rfl rfl ?_
    refine G.aload_n (pc' := 61) d_Mod_reasoned_60 rfl rfl ?_
    refine G.get (pc' := 64) d_Mod_reasoned_61 rfl fg_Mod_83 (HX_31 _ _) rfl ?_
    refine G.iload_n (pc' := 65) d_Mod_reasoned_64 rfl rfl ?_
    refine G.iald (pc' := 66) d_Mod_reasoned_65 rfl (HX_56 _ _) ?_
    refine G.iast (s' := wr s 53 (ix l3) (s 56 (ix l3))) (pc' := 67) d_Mod_reasoned_66 rfl (HX_53 _ _) (HXa_53 _ _ _ _) ?_
    refine G.iinc (w := 1) (v := l3 + 1) (ρ' := [some (vr 31), some (vi l1), some (vi l2), some (vi (l3 + 1))]) (pc' := 70) d_Mod_reasoned_67 rfl rfl (by decide) kI_1 rfl rfl ?_
    refine G.goto (tgt := 49) d_Mod_reasoned_70 (by decide) ?_
    exact hrec49 (l3 + 1) (wr s 53 (ix l3) (s 56 (ix l3)))
theorem t_Mod_reasoned_23 {R : List AC}  (l1 l2 : Int32) : ∀ (l3 : Int32) (s : Sg), Gd q_Mod_reasoned none 23 [some (vr 31), some (vi l1), some (vi l2), some (vi l3)] [] s R 0 0 (f_Mod_reasoned_23 l1 l2 l3 s) := by
  intro l3 s
  unfold f_Mod_reasoned_23
  refine G.loop1 (rf := fun l3 => [some (vr 31), some (vi l1), some (vi l2), some (vi l3)]) ?_ 4096 l3 s
  intro rec23 hrec23 l3 s
  refine G.iload_n (pc' := 24) d_Mod_reasoned_23 rfl rfl ?_
  refine G.bipush (v := 20) (pc' := 26) d_Mod_reasoned_24 rfl kB_20 ?_
  refine G.icmp_ge (pc' := 29) (tgt := 47) d_Mod_reasoned_26 rfl (by decide) ?_ ?_
  · refine G.iconst (v := 0) (pc' := 48) d_Mod_reasoned_47 rfl kI_0 ?_
    refine G.istore_n (ρ' := [some (vr 31), some (vi l1), some (vi l2), some (vi 0)]) (pc' := 49) d_Mod_reasoned_48 rfl (by decide) rfl ?_
    exact t_Mod_reasoned_49 l1 l2 0 s
  · refine G.aload_n (pc' := 30) d_Mod_reasoned_29 rfl rfl ?_
    refine G.get (pc' := 33) d_Mod_reasoned_30 rfl fg_Mod_71 (HX_31 _ _) rfl ?_
    refine G.iload_n (pc' := 34) d_Mod_reasoned_33 rfl rfl ?_
    refine G.aload_n (pc' := 35) d_Mod_reasoned_34 rfl rfl ?_
    refine G.get (pc' := 38) d_Mod_reasoned_35 rfl fg_Mod_80 (HX_31 _ _) rfl ?_
    refine G.iload_n (pc' := 39) d_Mod_reasoned_38 rfl rfl ?_
    refine G.iald (pc' := 40) d_Mod_reasoned_39 rfl (HX_55 _ _) ?_
    refine G.iast (s' := wr s 52 (ix l3) (s 55 (ix l3))) (pc' := 41) d_Mod_reasoned_40 rfl (HX_52 _ _) (HXa_52 _ _ _ _) ?_
    refine G.iinc (w := 1) (v := l3 + 1) (ρ' := [some (vr 31), some (vi l1), some (vi l2), some (vi (l3 + 1))]) (pc' := 44) d_Mod_reasoned_41 rfl rfl (by decide) kI_1 rfl rfl ?_
    refine G.goto (tgt := 23) d_Mod_reasoned_44 (by decide) ?_
    exact hrec23 (l3 + 1) (wr s 52 (ix l3) (s 55 (ix l3)))
theorem t_Mod_reasoned (l1 l2 : Int32) (s : Sg) (R : List AC) : Ct q_Mod_reasoned [vr 31, vi l1, vi l2] s R (f_Mod_reasoned l1 l2 s) := by
  refine Ct.of (by decide) rfl (ρ := [some (vr 31), some (vi l1), some (vi l2), none]) rfl ?_
  unfold f_Mod_reasoned
  refine G.iload_n (pc' := 1) d_Mod_reasoned_0 rfl rfl ?_
  refine G.if_lt (pc' := 4) (tgt := 19) d_Mod_reasoned_1 rfl (by decide) ?_ ?_
  · refine G.iconst (v := 0) (pc' := 20) d_Mod_reasoned_19 rfl kI_0 ?_
    exact G.zretK (by decide) d_Mod_reasoned_20 rfl ⟨Nat.le_refl _, Nat.le_refl _⟩
  · refine G.iload_n (pc' := 5) d_Mod_reasoned_4 rfl rfl ?_
    refine G.aload_n (pc' := 6) d_Mod_reasoned_5 rfl rfl ?_
    refine G.get (pc' := 9) d_Mod_reasoned_6 rfl fg_Mod_193 (HX_31 _ _) rfl ?_
    refine G.icmp_ge (pc' := 12) (tgt := 19) d_Mod_reasoned_9 rfl (by decide) ?_ ?_
    · refine G.iconst (v := 0) (pc' := 20) d_Mod_reasoned_19 rfl kI_0 ?_
      exact G.zretK (by decide) d_Mod_reasoned_20 rfl ⟨Nat.le_refl _, Nat.le_refl _⟩
    · refine G.iload_n (pc' := 13) d_Mod_reasoned_12 rfl rfl ?_
      refine G.callSi (As := [vi l2]) (n := 1) (st := []) (t_Mod_isSide l2 s _) (pc' := 16) d_Mod_reasoned_13 rfl lm_Mod_206 mk_Mod_isSide sx_Mod_isSide ⟨rfl, rfl⟩ ⟨by decide, by decide⟩ rfl rfl rfl ⟨Nat.le_refl _, Nat.le_refl _⟩ rfl (fun v1 s1 => ?_)
      refine G.if_ne (pc' := 19) (tgt := 21) d_Mod_reasoned_16 rfl (by decide) ?_ ?_
      · refine G.iconst (v := 0) (pc' := 20) d_Mod_reasoned_19 rfl kI_0 ?_
        exact G.zretK (by decide) d_Mod_reasoned_20 rfl ⟨Nat.le_refl _, Nat.le_refl _⟩
      · refine G.iconst (v := 0) (pc' := 22) d_Mod_reasoned_21 rfl kI_0 ?_
        refine G.istore_n (ρ' := [some (vr 31), some (vi l1), some (vi l2), some (vi 0)]) (pc' := 23) d_Mod_reasoned_22 rfl (by decide) rfl ?_
        exact t_Mod_reasoned_23 l1 l2 0 s1
theorem t_Mod_reasons (l1 l2 : Int32) (s : Sg) (R : List AC) : Ct q_Mod_reasons [vr 31, vi l1, vi l2] s R (f_Mod_reasons l1 l2 s) := by
  refine Ct.of (by decide) rfl (ρ := [some (vr 31), some (vi l1), some (vi l2)]) rfl ?_
  unfold f_Mod_reasons
  refine G.aload_n (pc' := 1) d_Mod_reasons_0 rfl rfl ?_
  refine G.iconst (v := 0) (pc' := 2) d_Mod_reasons_1 rfl kI_0 ?_
  refine G.put (s' := wr s 31 0 0) (pc' := 5) d_Mod_reasons_2 rfl fp_Mod_102 trivial (HX_31 _ _) rfl (HXf_31_0 _ _ _) ?_
  refine G.aload_n (pc' := 6) d_Mod_reasons_5 rfl rfl ?_
  refine G.iload_n (pc' := 7) d_Mod_reasons_6 rfl rfl ?_
  refine G.iload_n (pc' := 8) d_Mod_reasons_7 rfl rfl ?_
  refine G.callVi (As := [vi l1, vi l2]) (n := 2) (i := 31) (ci := 8) (st := []) (t_Mod_reasoned l1 l2 (wr s 31 0 0) _) (pc' := 11) d_Mod_reasons_8 rfl lm_Mod_209 mk_Mod_reasoned mv_Mod_reasoned ⟨rfl, rfl⟩ ⟨by decide, by decide⟩ (HX_31 _ _) rfl rfl rfl rfl ⟨Nat.le_refl _, Nat.le_refl _⟩ rfl (fun v1 s1 => ?_)
  refine G.if_eq (pc' := 14) (tgt := 21) d_Mod_reasons_11 rfl (by decide) ?_ ?_
  · refine G.iconst (v := 0) (pc' := 22) d_Mod_reasons_21 rfl kI_0 ?_
    exact G.iret d_Mod_reasons_22 rfl ⟨Nat.le_refl _, Nat.le_refl _⟩
  · refine G.aload_n (pc' := 15) d_Mod_reasons_14 rfl rfl ?_
    refine G.get (pc' := 18) d_Mod_reasons_15 rfl fg_Mod_165 (HX_31 _ _) rfl ?_
    refine G.goto (tgt := 22) d_Mod_reasons_18 (by decide) ?_
    exact G.iret d_Mod_reasons_22 rfl ⟨Nat.le_refl _, Nat.le_refl _⟩
theorem t_Mod_reason (l1 l2 l3 l4 : Int32) (s : Sg) (R : List AC) : Ct q_Mod_reason [vr 31, vi l1, vi l2, vi l3, vi l4] s R (f_Mod_reason l1 l2 l3 l4 s) := by
  refine Ct.of (by decide) rfl (ρ := [some (vr 31), some (vi l1), some (vi l2), some (vi l3), some (vi l4)]) rfl ?_
  unfold f_Mod_reason
  refine G.aload_n (pc' := 1) d_Mod_reason_0 rfl rfl ?_
  refine G.iconst (v := 0) (pc' := 2) d_Mod_reason_1 rfl kI_0 ?_
  refine G.put (s' := wr s 31 0 0) (pc' := 5) d_Mod_reason_2 rfl fp_Mod_102 trivial (HX_31 _ _) rfl (HXf_31_0 _ _ _) ?_
  refine G.aload_n (pc' := 6) d_Mod_reason_5 rfl rfl ?_
  refine G.iload_n (pc' := 7) d_Mod_reason_6 rfl rfl ?_
  refine G.iload_n (pc' := 8) d_Mod_reason_7 rfl rfl ?_
  refine G.callVi (As := [vi l1, vi l2]) (n := 2) (i := 31) (ci := 8) (st := []) (t_Mod_reasoned l1 l2 (wr s 31 0 0) _) (pc' := 11) d_Mod_reason_8 rfl lm_Mod_209 mk_Mod_reasoned mv_Mod_reasoned ⟨rfl, rfl⟩ ⟨by decide, by decide⟩ (HX_31 _ _) rfl rfl rfl rfl ⟨Nat.le_refl _, Nat.le_refl _⟩ rfl (fun v1 s1 => ?_)
  refine G.if_eq (pc' := 14) (tgt := 26) d_Mod_reason_11 rfl (by decide) ?_ ?_
  · refine G.iconst (v := (-1)) (pc' := 27) d_Mod_reason_26 rfl kI_m1 ?_
    exact G.iret d_Mod_reason_27 rfl ⟨Nat.le_refl _, Nat.le_refl _⟩
  · refine G.iload_n (pc' := 15) d_Mod_reason_14 rfl rfl ?_
    refine G.if_lt (pc' := 18) (tgt := 26) d_Mod_reason_15 rfl (by decide) ?_ ?_
    · refine G.iconst (v := (-1)) (pc' := 27) d_Mod_reason_26 rfl kI_m1 ?_
      exact G.iret d_Mod_reason_27 rfl ⟨Nat.le_refl _, Nat.le_refl _⟩
    · refine G.iload_n (pc' := 19) d_Mod_reason_18 rfl rfl ?_
      refine G.aload_n (pc' := 20) d_Mod_reason_19 rfl rfl ?_
      refine G.get (pc' := 23) d_Mod_reason_20 rfl fg_Mod_165 (HX_31 _ _) rfl ?_
      refine G.icmp_lt (pc' := 26) (tgt := 28) d_Mod_reason_23 rfl (by decide) ?_ ?_
      · refine G.iload (pc' := 30) d_Mod_reason_28 rfl rfl ?_
        refine G.if_ne (pc' := 33) (tgt := 42) d_Mod_reason_30 rfl (by decide) ?_ ?_
        · refine G.aload_n (pc' := 34) d_Mod_reason_33 rfl rfl ?_
          refine G.get (pc' := 37) d_Mod_reason_34 rfl fg_Mod_96 (HX_31 _ _) rfl ?_
          refine G.iload_n (pc' := 38) d_Mod_reason_37 rfl rfl ?_
          refine G.iald (pc' := 39) d_Mod_reason_38 rfl (HX_59 _ _) ?_
          refine G.goto (tgt := 58) d_Mod_reason_39 (by decide) ?_
          exact G.iret d_Mod_reason_58 rfl ⟨Nat.le_refl _, Nat.le_refl _⟩
        · refine G.iload (pc' := 44) d_Mod_reason_42 rfl rfl ?_
          refine G.iconst (v := 1) (pc' := 45) d_Mod_reason_44 rfl kI_1 ?_
          refine G.icmp_ne (pc' := 48) (tgt := 57) d_Mod_reason_45 rfl (by decide) ?_ ?_
          · refine G.aload_n (pc' := 49) d_Mod_reason_48 rfl rfl ?_
            refine G.get (pc' := 52) d_Mod_reason_49 rfl fg_Mod_99 (HX_31 _ _) rfl ?_
            refine G.iload_n (pc' := 53) d_Mod_reason_52 rfl rfl ?_
            refine G.iald (pc' := 54) d_Mod_reason_53 rfl (HX_60 _ _) ?_
            refine G.goto (tgt := 58) d_Mod_reason_54 (by decide) ?_
            exact G.iret d_Mod_reason_58 rfl ⟨Nat.le_refl _, Nat.le_refl _⟩
          · refine G.iconst (v := (-1)) (pc' := 58) d_Mod_reason_57 rfl kI_m1 ?_
            exact G.iret d_Mod_reason_58 rfl ⟨Nat.le_refl _, Nat.le_refl _⟩
      · refine G.iconst (v := (-1)) (pc' := 27) d_Mod_reason_26 rfl kI_m1 ?_
        exact G.iret d_Mod_reason_27 rfl ⟨Nat.le_refl _, Nat.le_refl _⟩
theorem t_Mod_clash_84 {R : List AC} (rec10 : Int32 → Int32 → Sg → Ro) (rec25 : Int32 → Int32 → Sg → Ro) (l1 l2 l4 l5 : Int32) (hrec10 : ∀ (l3 l4 : Int32) (s : Sg), Gd q_Mod_clash none 10 [some (vr 31), some (vi l1), some (vi l2), some (vi l3), some (vi l4), none, none] [] s R 0 0 (rec10 l3 l4 s)) (hrec25 : ∀ (l3 l5 : Int32) (s : Sg), Gd q_Mod_clash none 25 [some (vr 31), some (vi l1), some (vi l2), some (vi l3), some (vi l4), some (vi l5), none] [] s R 0 0 (rec25 l3 l5 s)) : ∀ (l3 l6 : Int32) (s : Sg), Gd q_Mod_clash none 84 [some (vr 31), some (vi l1), some (vi l2), some (vi l3), some (vi l4), some (vi l5), some (vi l6)] [] s R 0 0 (f_Mod_clash_84 rec10 rec25 l1 l2 l4 l5 l3 l6 s) := by
  intro l3 l6 s
  unfold f_Mod_clash_84
  refine G.loop2 (rf := fun l3 l6 => [some (vr 31), some (vi l1), some (vi l2), some (vi l3), some (vi l4), some (vi l5), some (vi l6)]) ?_ 4096 l3 l6 s
  intro rec84 hrec84 l3 l6 s
  refine G.iload (pc' := 86) d_Mod_clash_84 rfl rfl ?_
  refine G.iconst (v := 2) (pc' := 87) d_Mod_clash_86 rfl kI_2 ?_
  refine G.icmp_ge (pc' := 90) (tgt := 168) d_Mod_clash_87 rfl (by decide) ?_ ?_
  · refine G.iinc (w := 1) (v := l5 + 1) (ρ' := [some (vr 31), some (vi l1), some (vi l2), some (vi l3), some (vi l4), some (vi (l5 + 1)), some (vi l6)]) (pc' := 171) d_Mod_clash_168 rfl rfl (by decide) kI_1 rfl rfl ?_
    refine G.goto (tgt := 25) d_Mod_clash_171 (by decide) ?_
    refine G.mask [true, true, true, true, true, true, false] (ρ' := [some (vr 31), some (vi l1), some (vi l2), some (vi l3), some (vi l4), some (vi (l5 + 1)), none]) rfl ?_
    exact hrec25 l3 (l5 + 1) s
  · refine G.aload_n (pc' := 91) d_Mod_clash_90 rfl rfl ?_
    refine G.get (pc' := 94) d_Mod_clash_91 rfl fg_Mod_86 (HX_31 _ _) rfl ?_
    refine G.iconst (v := 2) (pc' := 95) d_Mod_clash_94 rfl kI_2 ?_
    refine G.iload (pc' := 97) d_Mod_clash_95 rfl rfl ?_
    refine G.imul (pc' := 98) d_Mod_clash_97 rfl ?_
    refine G.iload (pc' := 100) d_Mod_clash_98 rfl rfl ?_
    refine G.iadd (pc' := 101) d_Mod_clash_100 rfl ?_
    refine G.iald (pc' := 102) d_Mod_clash_101 rfl (HX_57 _ _) ?_
    refine G.if_eq (pc' := 105) (tgt := 162) d_Mod_clash_102 rfl (by decide) ?_ ?_
    · refine G.iinc (w := 1) (v := l6 + 1) (ρ' := [some (vr 31), some (vi l1), some (vi l2), some (vi l3), some (vi l4), some (vi l5), some (vi (l6 + 1))]) (pc' := 165) d_Mod_clash_162 rfl rfl (by decide) kI_1 rfl rfl ?_
      refine G.goto (tgt := 84) d_Mod_clash_165 (by decide) ?_
      exact hrec84 l3 (l6 + 1) s
    · refine G.aload_n (pc' := 106) d_Mod_clash_105 rfl rfl ?_
      refine G.get (pc' := 109) d_Mod_clash_106 rfl fg_Mod_86 (HX_31 _ _) rfl ?_
      refine G.iconst (v := 2) (pc' := 110) d_Mod_clash_109 rfl kI_2 ?_
      refine G.iload (pc' := 112) d_Mod_clash_110 rfl rfl ?_
      refine G.imul (pc' := 113) d_Mod_clash_112 rfl ?_
      refine G.iload (pc' := 115) d_Mod_clash_113 rfl rfl ?_
      refine G.iadd (pc' := 116) d_Mod_clash_115 rfl ?_
      refine G.iald (pc' := 117) d_Mod_clash_116 rfl (HX_57 _ _) ?_
      refine G.if_ne (pc' := 120) (tgt := 123) d_Mod_clash_117 rfl (by decide) ?_ ?_
      · refine G.goto (tgt := 162) d_Mod_clash_120 (by decide) ?_
        refine G.iinc (w := 1) (v := l6 + 1) (ρ' := [some (vr 31), some (vi l1), some (vi l2), some (vi l3), some (vi l4), some (vi l5), some (vi (l6 + 1))]) (pc' := 165) d_Mod_clash_162 rfl rfl (by decide) kI_1 rfl rfl ?_
        refine G.goto (tgt := 84) d_Mod_clash_165 (by decide) ?_
        exact hrec84 l3 (l6 + 1) s
      · refine G.iload_n (pc' := 124) d_Mod_clash_123 rfl rfl ?_
        refine G.iload_n (pc' := 125) d_Mod_clash_124 rfl rfl ?_
        refine G.icmp_ne (pc' := 128) (tgt := 159) d_Mod_clash_125 rfl (by decide) ?_ ?_
        · refine G.iload_n (pc' := 129) d_Mod_clash_128 rfl rfl ?_
          refine G.if_ne (pc' := 132) (tgt := 137) d_Mod_clash_129 rfl (by decide) ?_ ?_
          · refine G.iload (pc' := 134) d_Mod_clash_132 rfl rfl ?_
            refine G.goto (tgt := 158) d_Mod_clash_134 (by decide) ?_
            exact G.iret d_Mod_clash_158 rfl ⟨Nat.le_refl _, Nat.le_refl _⟩
          · refine G.iload_n (pc' := 138) d_Mod_clash_137 rfl rfl ?_
            refine G.iconst (v := 1) (pc' := 139) d_Mod_clash_138 rfl kI_1 ?_
            refine G.icmp_ne (pc' := 142) (tgt := 147) d_Mod_clash_139 rfl (by decide) ?_ ?_
            · refine G.iload (pc' := 144) d_Mod_clash_142 rfl rfl ?_
              refine G.goto (tgt := 158) d_Mod_clash_144 (by decide) ?_
              exact G.iret d_Mod_clash_158 rfl ⟨Nat.le_refl _, Nat.le_refl _⟩
            · refine G.iload_n (pc' := 148) d_Mod_clash_147 rfl rfl ?_
              refine G.iconst (v := 2) (pc' := 149) d_Mod_clash_148 rfl kI_2 ?_
              refine G.icmp_ne (pc' := 152) (tgt := 157) d_Mod_clash_149 rfl (by decide) ?_ ?_
              · refine G.iload (pc' := 154) d_Mod_clash_152 rfl rfl ?_
                refine G.goto (tgt := 158) d_Mod_clash_154 (by decide) ?_
                exact G.iret d_Mod_clash_158 rfl ⟨Nat.le_refl _, Nat.le_refl _⟩
              · refine G.iconst (v := (-1)) (pc' := 158) d_Mod_clash_157 rfl kI_m1 ?_
                exact G.iret d_Mod_clash_158 rfl ⟨Nat.le_refl _, Nat.le_refl _⟩
        · refine G.iinc (w := 1) (v := l3 + 1) (ρ' := [some (vr 31), some (vi l1), some (vi l2), some (vi (l3 + 1)), some (vi l4), some (vi l5), some (vi l6)]) (pc' := 162) d_Mod_clash_159 rfl rfl (by decide) kI_1 rfl rfl ?_
          refine G.iinc (w := 1) (v := l6 + 1) (ρ' := [some (vr 31), some (vi l1), some (vi l2), some (vi (l3 + 1)), some (vi l4), some (vi l5), some (vi (l6 + 1))]) (pc' := 165) d_Mod_clash_162 rfl rfl (by decide) kI_1 rfl rfl ?_
          refine G.goto (tgt := 84) d_Mod_clash_165 (by decide) ?_
          exact hrec84 (l3 + 1) (l6 + 1) s
theorem t_Mod_clash_25 {R : List AC} (rec10 : Int32 → Int32 → Sg → Ro) (l1 l2 l4 : Int32) (hrec10 : ∀ (l3 l4 : Int32) (s : Sg), Gd q_Mod_clash none 10 [some (vr 31), some (vi l1), some (vi l2), some (vi l3), some (vi l4), none, none] [] s R 0 0 (rec10 l3 l4 s)) : ∀ (l3 l5 : Int32) (s : Sg), Gd q_Mod_clash none 25 [some (vr 31), some (vi l1), some (vi l2), some (vi l3), some (vi l4), some (vi l5), none] [] s R 0 0 (f_Mod_clash_25 rec10 l1 l2 l4 l3 l5 s) := by
  intro l3 l5 s
  unfold f_Mod_clash_25
  refine G.loop2 (rf := fun l3 l5 => [some (vr 31), some (vi l1), some (vi l2), some (vi l3), some (vi l4), some (vi l5), none]) ?_ 4096 l3 l5 s
  intro rec25 hrec25 l3 l5 s
  refine G.iload (pc' := 27) d_Mod_clash_25 rfl rfl ?_
  refine G.aload_n (pc' := 28) d_Mod_clash_27 rfl rfl ?_
  refine G.get (pc' := 31) d_Mod_clash_28 rfl fg_Mod_193 (HX_31 _ _) rfl ?_
  refine G.icmp_ge (pc' := 34) (tgt := 174) d_Mod_clash_31 rfl (by decide) ?_ ?_
  · refine G.iinc (w := 1) (v := l4 + 1) (ρ' := [some (vr 31), some (vi l1), some (vi l2), some (vi l3), some (vi (l4 + 1)), some (vi l5), none]) (pc' := 177) d_Mod_clash_174 rfl rfl (by decide) kI_1 rfl rfl ?_
    refine G.goto (tgt := 10) d_Mod_clash_177 (by decide) ?_
    refine G.mask [true, true, true, true, true, false, false] (ρ' := [some (vr 31), some (vi l1), some (vi l2), some (vi l3), some (vi (l4 + 1)), none, none]) rfl ?_
    exact hrec10 l3 (l4 + 1) s
  · refine G.aload_n (pc' := 35) d_Mod_clash_34 rfl rfl ?_
    refine G.get (pc' := 38) d_Mod_clash_35 rfl fg_Mod_19 (HX_31 _ _) rfl ?_
    refine G.iload (pc' := 40) d_Mod_clash_38 rfl rfl ?_
    refine G.iald (pc' := 41) d_Mod_clash_40 rfl (HX_35 _ _) ?_
    refine G.aload_n (pc' := 42) d_Mod_clash_41 rfl rfl ?_
    refine G.get (pc' := 45) d_Mod_clash_42 rfl fg_Mod_19 (HX_31 _ _) rfl ?_
    refine G.iload (pc' := 47) d_Mod_clash_45 rfl rfl ?_
    refine G.iald (pc' := 48) d_Mod_clash_47 rfl (HX_35 _ _) ?_
    refine G.icmp_ne (pc' := 51) (tgt := 168) d_Mod_clash_48 rfl (by decide) ?_ ?_
    · refine G.aload_n (pc' := 52) d_Mod_clash_51 rfl rfl ?_
      refine G.get (pc' := 55) d_Mod_clash_52 rfl fg_Mod_26 (HX_31 _ _) rfl ?_
      refine G.iload (pc' := 57) d_Mod_clash_55 rfl rfl ?_
      refine G.iald (pc' := 58) d_Mod_clash_57 rfl (HX_37 _ _) ?_
      refine G.if_eq (pc' := 61) (tgt := 168) d_Mod_clash_58 rfl (by decide) ?_ ?_
      · refine G.iinc (w := 1) (v := l5 + 1) (ρ' := [some (vr 31), some (vi l1), some (vi l2), some (vi l3), some (vi l4), some (vi (l5 + 1)), none]) (pc' := 171) d_Mod_clash_168 rfl rfl (by decide) kI_1 rfl rfl ?_
        refine G.goto (tgt := 25) d_Mod_clash_171 (by decide) ?_
        exact hrec25 l3 (l5 + 1) s
      · refine G.aload_n (pc' := 62) d_Mod_clash_61 rfl rfl ?_
        refine G.get (pc' := 65) d_Mod_clash_62 rfl fg_Mod_26 (HX_31 _ _) rfl ?_
        refine G.iload (pc' := 67) d_Mod_clash_65 rfl rfl ?_
        refine G.iald (pc' := 68) d_Mod_clash_67 rfl (HX_37 _ _) ?_
        refine G.aload_n (pc' := 69) d_Mod_clash_68 rfl rfl ?_
        refine G.get (pc' := 72) d_Mod_clash_69 rfl fg_Mod_26 (HX_31 _ _) rfl ?_
        refine G.iload (pc' := 74) d_Mod_clash_72 rfl rfl ?_
        refine G.iald (pc' := 75) d_Mod_clash_74 rfl (HX_37 _ _) ?_
        refine G.icmp_eq (pc' := 78) (tgt := 81) d_Mod_clash_75 rfl (by decide) ?_ ?_
        · refine G.iconst (v := 0) (pc' := 82) d_Mod_clash_81 rfl kI_0 ?_
          refine G.istore (ρ' := [some (vr 31), some (vi l1), some (vi l2), some (vi l3), some (vi l4), some (vi l5), some (vi 0)]) (pc' := 84) d_Mod_clash_82 rfl (by decide) rfl ?_
          exact t_Mod_clash_84 rec10 rec25 l1 l2 l4 l5 hrec10 hrec25 l3 0 s
        · refine G.goto (tgt := 168) d_Mod_clash_78 (by decide) ?_
          refine G.iinc (w := 1) (v := l5 + 1) (ρ' := [some (vr 31), some (vi l1), some (vi l2), some (vi l3), some (vi l4), some (vi (l5 + 1)), none]) (pc' := 171) d_Mod_clash_168 rfl rfl (by decide) kI_1 rfl rfl ?_
          refine G.goto (tgt := 25) d_Mod_clash_171 (by decide) ?_
          exact hrec25 l3 (l5 + 1) s
    · refine G.iinc (w := 1) (v := l5 + 1) (ρ' := [some (vr 31), some (vi l1), some (vi l2), some (vi l3), some (vi l4), some (vi (l5 + 1)), none]) (pc' := 171) d_Mod_clash_168 rfl rfl (by decide) kI_1 rfl rfl ?_
      refine G.goto (tgt := 25) d_Mod_clash_171 (by decide) ?_
      exact hrec25 l3 (l5 + 1) s
theorem t_Mod_clash_10 {R : List AC}  (l1 l2 : Int32) : ∀ (l3 l4 : Int32) (s : Sg), Gd q_Mod_clash none 10 [some (vr 31), some (vi l1), some (vi l2), some (vi l3), some (vi l4), none, none] [] s R 0 0 (f_Mod_clash_10 l1 l2 l3 l4 s) := by
  intro l3 l4 s
  unfold f_Mod_clash_10
  refine G.loop2 (rf := fun l3 l4 => [some (vr 31), some (vi l1), some (vi l2), some (vi l3), some (vi l4), none, none]) ?_ 4096 l3 l4 s
  intro rec10 hrec10 l3 l4 s
  refine G.iload (pc' := 12) d_Mod_clash_10 rfl rfl ?_
  refine G.aload_n (pc' := 13) d_Mod_clash_12 rfl rfl ?_
  refine G.get (pc' := 16) d_Mod_clash_13 rfl fg_Mod_193 (HX_31 _ _) rfl ?_
  refine G.icmp_ge (pc' := 19) (tgt := 180) d_Mod_clash_16 rfl (by decide) ?_ ?_
  · refine G.iconst (v := (-1)) (pc' := 181) d_Mod_clash_180 rfl kI_m1 ?_
    exact G.iret d_Mod_clash_181 rfl ⟨Nat.le_refl _, Nat.le_refl _⟩
  · refine G.iload (pc' := 21) d_Mod_clash_19 rfl rfl ?_
    refine G.iconst (v := 1) (pc' := 22) d_Mod_clash_21 rfl kI_1 ?_
    refine G.iadd (pc' := 23) d_Mod_clash_22 rfl ?_
    refine G.istore (ρ' := [some (vr 31), some (vi l1), some (vi l2), some (vi l3), some (vi l4), some (vi (l4 + 1)), none]) (pc' := 25) d_Mod_clash_23 rfl (by decide) rfl ?_
    exact t_Mod_clash_25 rec10 l1 l2 l4 hrec10 l3 (l4 + 1) s
theorem t_Mod_clash (l1 l2 : Int32) (s : Sg) (R : List AC) : Ct q_Mod_clash [vr 31, vi l1, vi l2] s R (f_Mod_clash l1 l2 s) := by
  refine Ct.of (by decide) rfl (ρ := [some (vr 31), some (vi l1), some (vi l2), none, none, none, none]) rfl ?_
  unfold f_Mod_clash
  refine G.aload_n (pc' := 1) d_Mod_clash_0 rfl rfl ?_
  refine G.iconst (v := 0) (pc' := 2) d_Mod_clash_1 rfl kI_0 ?_
  refine G.put (s' := wr s 31 0 0) (pc' := 5) d_Mod_clash_2 rfl fp_Mod_102 trivial (HX_31 _ _) rfl (HXf_31_0 _ _ _) ?_
  refine G.iconst (v := 0) (pc' := 6) d_Mod_clash_5 rfl kI_0 ?_
  refine G.istore_n (ρ' := [some (vr 31), some (vi l1), some (vi l2), some (vi 0), none, none, none]) (pc' := 7) d_Mod_clash_6 rfl (by decide) rfl ?_
  refine G.iconst (v := 0) (pc' := 8) d_Mod_clash_7 rfl kI_0 ?_
  refine G.istore (ρ' := [some (vr 31), some (vi l1), some (vi l2), some (vi 0), some (vi 0), none, none]) (pc' := 10) d_Mod_clash_8 rfl (by decide) rfl ?_
  exact t_Mod_clash_10 l1 l2 0 0 (wr s 31 0 0)
theorem t_Mod_without_94 {R : List AC}  : ∀ (l5 : Int32) (s : Sg), Gd q_Mod_without none 94 [some (vr 31), none, none, none, none, some (vi l5)] [] s R 0 0 (f_Mod_without_94 l5 s) := by
  intro l5 s
  unfold f_Mod_without_94
  refine G.loop1 (rf := fun l5 => [some (vr 31), none, none, none, none, some (vi l5)]) ?_ 4096 l5 s
  intro rec94 hrec94 l5 s
  refine G.iload (pc' := 96) d_Mod_without_94 rfl rfl ?_
  refine G.iconst (v := 2) (pc' := 97) d_Mod_without_96 rfl kI_2 ?_
  refine G.aload_n (pc' := 98) d_Mod_without_97 rfl rfl ?_
  refine G.get (pc' := 101) d_Mod_without_98 rfl fg_Mod_193 (HX_31 _ _) rfl ?_
  refine G.imul (pc' := 102) d_Mod_without_101 rfl ?_
  refine G.icmp_ge (pc' := 105) (tgt := 155) d_Mod_without_102 rfl (by decide) ?_ ?_
  · refine G.aload_n (pc' := 156) d_Mod_without_155 rfl rfl ?_
    refine G.get (pc' := 159) d_Mod_without_156 rfl fg_Mod_212 (HX_31 _ _) rfl ?_
    exact G.iret d_Mod_without_159 rfl ⟨Nat.le_refl _, Nat.le_refl _⟩
  · refine G.aload_n (pc' := 106) d_Mod_without_105 rfl rfl ?_
    refine G.get (pc' := 109) d_Mod_without_106 rfl fg_Mod_86 (HX_31 _ _) rfl ?_
    refine G.iload (pc' := 111) d_Mod_without_109 rfl rfl ?_
    refine G.iald (pc' := 112) d_Mod_without_111 rfl (HX_57 _ _) ?_
    refine G.if_eq (pc' := 115) (tgt := 149) d_Mod_without_112 rfl (by decide) ?_ ?_
    · refine G.iinc (w := 1) (v := l5 + 1) (ρ' := [some (vr 31), none, none, none, none, some (vi (l5 + 1))]) (pc' := 152) d_Mod_without_149 rfl rfl (by decide) kI_1 rfl rfl ?_
      refine G.goto (tgt := 94) d_Mod_without_152 (by decide) ?_
      exact hrec94 (l5 + 1) s
    · refine G.aload_n (pc' := 116) d_Mod_without_115 rfl rfl ?_
      refine G.get (pc' := 119) d_Mod_without_116 rfl fg_Mod_77 (HX_31 _ _) rfl ?_
      refine G.iload (pc' := 121) d_Mod_without_119 rfl rfl ?_
      refine G.iald (pc' := 122) d_Mod_without_121 rfl (HX_54 _ _) ?_
      refine G.if_le (pc' := 125) (tgt := 128) d_Mod_without_122 rfl (by decide) ?_ ?_
      · refine G.aload_n (pc' := 129) d_Mod_without_128 rfl rfl ?_
        refine G.get (pc' := 132) d_Mod_without_129 rfl fg_Mod_93 (HX_31 _ _) rfl ?_
        refine G.aload_n (pc' := 133) d_Mod_without_132 rfl rfl ?_
        refine G.get (pc' := 136) d_Mod_without_133 rfl fg_Mod_212 (HX_31 _ _) rfl ?_
        refine G.iload (pc' := 138) d_Mod_without_136 rfl rfl ?_
        refine G.iast (s' := wr s 58 (ix (s 31 42)) l5) (pc' := 139) d_Mod_without_138 rfl (HX_58 _ _) (HXa_58 _ _ _ _) ?_
        refine G.aload_n (pc' := 140) d_Mod_without_139 rfl rfl ?_
        refine G.dup (pc' := 141) d_Mod_without_140 rfl ?_
        refine G.get (pc' := 144) d_Mod_without_141 rfl fg_Mod_212 (HX_31 _ _) rfl ?_
        refine G.eqv (w := vi (s 31 42)) rfl ?_
        refine G.iconst (v := 1) (pc' := 145) d_Mod_without_144 rfl kI_1 ?_
        refine G.iadd (pc' := 146) d_Mod_without_145 rfl ?_
        refine G.put (s' := wr (wr s 58 (ix (s 31 42)) l5) 31 42 ((s 31 42) + 1)) (pc' := 149) d_Mod_without_146 rfl fp_Mod_212 trivial (HX_31 _ _) rfl (HXf_31_42 _ _ _) ?_
        refine G.iinc (w := 1) (v := l5 + 1) (ρ' := [some (vr 31), none, none, none, none, some (vi (l5 + 1))]) (pc' := 152) d_Mod_without_149 rfl rfl (by decide) kI_1 rfl rfl ?_
        refine G.goto (tgt := 94) d_Mod_without_152 (by decide) ?_
        exact hrec94 (l5 + 1) (wr (wr s 58 (ix (s 31 42)) l5) 31 42 ((s 31 42) + 1))
      · refine G.goto (tgt := 149) d_Mod_without_125 (by decide) ?_
        refine G.iinc (w := 1) (v := l5 + 1) (ρ' := [some (vr 31), none, none, none, none, some (vi (l5 + 1))]) (pc' := 152) d_Mod_without_149 rfl rfl (by decide) kI_1 rfl rfl ?_
        refine G.goto (tgt := 94) d_Mod_without_152 (by decide) ?_
        exact hrec94 (l5 + 1) s
theorem t_Mod_without_60 {R : List AC}  (t0 : Int32) (s : Sg) : Gd q_Mod_without none 60 [some (vr 31), none, none, none, none, none] [vi t0] s R 0 0 (f_Mod_without_60 t0 s) := by
  unfold f_Mod_without_60
  refine G.istore (ρ' := [some (vr 31), none, none, none, some (vi t0), none]) (pc' := 62) d_Mod_without_60 rfl (by decide) rfl ?_
  refine G.iload (pc' := 64) d_Mod_without_62 rfl rfl ?_
  refine G.iconst (v := (-1)) (pc' := 65) d_Mod_without_64 rfl kI_m1 ?_
  refine G.icmp_ne (pc' := 68) (tgt := 70) d_Mod_without_65 rfl (by decide) ?_ ?_
  · refine G.iconst (v := (-1)) (pc' := 69) d_Mod_without_68 rfl kI_m1 ?_
    exact G.iret d_Mod_without_69 rfl ⟨Nat.le_refl _, Nat.le_refl _⟩
  · refine G.aload_n (pc' := 71) d_Mod_without_70 rfl rfl ?_
    refine G.iload (pc' := 73) d_Mod_without_71 rfl rfl ?_
    refine G.put (s' := wr s 31 40 t0) (pc' := 76) d_Mod_without_73 rfl fp_Mod_89 trivial (HX_31 _ _) rfl (HXf_31_40 _ _ _) ?_
    refine G.aload_n (pc' := 77) d_Mod_without_76 rfl rfl ?_
    refine G.callVi (As := []) (n := 0) (i := 31) (ci := 8) (st := []) (t_Mod_close (wr s 31 40 t0) _) (pc' := 80) d_Mod_without_77 rfl lm_Mod_202 mk_Mod_close mv_Mod_close ⟨rfl, rfl⟩ ⟨by decide, by decide⟩ (HX_31 _ _) rfl rfl rfl rfl ⟨Nat.le_refl _, Nat.le_refl _⟩ rfl (fun v1 s1 => ?_)
    refine G.pop (pc' := 81) d_Mod_without_80 rfl ?_
    refine G.aload_n (pc' := 82) d_Mod_without_81 rfl rfl ?_
    refine G.iconst (v := (-1)) (pc' := 83) d_Mod_without_82 rfl kI_m1 ?_
    refine G.put (s' := wr s1 31 40 (-1)) (pc' := 86) d_Mod_without_83 rfl fp_Mod_89 trivial (HX_31 _ _) rfl (HXf_31_40 _ _ _) ?_
    refine G.aload_n (pc' := 87) d_Mod_without_86 rfl rfl ?_
    refine G.iconst (v := 0) (pc' := 88) d_Mod_without_87 rfl kI_0 ?_
    refine G.put (s' := wr (wr s1 31 40 (-1)) 31 42 0) (pc' := 91) d_Mod_without_88 rfl fp_Mod_212 trivial (HX_31 _ _) rfl (HXf_31_42 _ _ _) ?_
    refine G.iconst (v := 0) (pc' := 92) d_Mod_without_91 rfl kI_0 ?_
    refine G.istore (ρ' := [some (vr 31), none, none, none, some (vi t0), some (vi 0)]) (pc' := 94) d_Mod_without_92 rfl (by decide) rfl ?_
    refine G.mask [true, false, false, false, false, true] (ρ' := [some (vr 31), none, none, none, none, some (vi 0)]) rfl ?_
    exact t_Mod_without_94 0 (wr (wr s1 31 40 (-1)) 31 42 0)
theorem t_Mod_without (l1 l2 : Int32) (s : Sg) (R : List AC) : Ct q_Mod_without [vr 31, vi l1, vi l2] s R (f_Mod_without l1 l2 s) := by
  refine Ct.of (by decide) rfl (ρ := [some (vr 31), some (vi l1), some (vi l2), none, none, none]) rfl ?_
  unfold f_Mod_without
  refine G.aload_n (pc' := 1) d_Mod_without_0 rfl rfl ?_
  refine G.iconst (v := 0) (pc' := 2) d_Mod_without_1 rfl kI_0 ?_
  refine G.put (s' := wr s 31 0 0) (pc' := 5) d_Mod_without_2 rfl fp_Mod_102 trivial (HX_31 _ _) rfl (HXf_31_0 _ _ _) ?_
  refine G.aload_n (pc' := 6) d_Mod_without_5 rfl rfl ?_
  refine G.get (pc' := 9) d_Mod_without_6 rfl fg_Mod_199 (HX_31 _ _) rfl ?_
  refine G.eqv (w := vi (s 31 32)) rfl ?_
  refine G.if_eq (pc' := 12) (tgt := 27) d_Mod_without_9 rfl (by decide) ?_ ?_
  · refine G.iconst (v := (-1)) (pc' := 28) d_Mod_without_27 rfl kI_m1 ?_
    exact G.iret d_Mod_without_28 rfl ⟨Nat.le_refl _, Nat.le_refl _⟩
  · refine G.aload_n (pc' := 13) d_Mod_without_12 rfl rfl ?_
    refine G.get (pc' := 16) d_Mod_without_13 rfl fg_Mod_114 (HX_31 _ _) rfl ?_
    refine G.eqv (w := vi (s 31 33)) rfl ?_
    refine G.if_ne (pc' := 19) (tgt := 27) d_Mod_without_16 rfl (by decide) ?_ ?_
    · refine G.aload_n (pc' := 20) d_Mod_without_19 rfl rfl ?_
      refine G.iload_n (pc' := 21) d_Mod_without_20 rfl rfl ?_
      refine G.callVi (As := [vi l1]) (n := 1) (i := 31) (ci := 8) (st := []) (t_Mod_isUser l1 (wr s 31 0 0) _) (pc' := 24) d_Mod_without_21 rfl lm_Mod_130 mk_Mod_isUser mv_Mod_isUser ⟨rfl, rfl⟩ ⟨by decide, by decide⟩ (HX_31 _ _) rfl rfl rfl rfl ⟨Nat.le_refl _, Nat.le_refl _⟩ rfl (fun v1 s1 => ?_)
      refine G.if_ne (pc' := 27) (tgt := 29) d_Mod_without_24 rfl (by decide) ?_ ?_
      · refine G.iconst (v := (-1)) (pc' := 28) d_Mod_without_27 rfl kI_m1 ?_
        exact G.iret d_Mod_without_28 rfl ⟨Nat.le_refl _, Nat.le_refl _⟩
      · refine G.aload_n (pc' := 30) d_Mod_without_29 rfl rfl ?_
        refine G.aload_n (pc' := 31) d_Mod_without_30 rfl rfl ?_
        refine G.get (pc' := 34) d_Mod_without_31 rfl fg_Mod_35 (HX_31 _ _) rfl ?_
        refine G.iload_n (pc' := 35) d_Mod_without_34 rfl rfl ?_
        refine G.iald (pc' := 36) d_Mod_without_35 rfl (HX_40 _ _) ?_
        refine G.iload_n (pc' := 37) d_Mod_without_36 rfl rfl ?_
        refine G.callVi (As := [vi (s1 40 (ix l1)), vi l2]) (n := 2) (i := 31) (ci := 8) (st := []) (t_Mod_named (s1 40 (ix l1)) l2 s1 _) (pc' := 40) d_Mod_without_37 rfl lm_Mod_126 mk_Mod_named mv_Mod_named ⟨rfl, rfl⟩ ⟨by decide, by decide⟩ (HX_31 _ _) rfl rfl rfl rfl ⟨Nat.le_refl _, Nat.le_refl _⟩ rfl (fun v2 s2 => ?_)
        refine G.istore_n (ρ' := [some (vr 31), some (vi l1), some (vi l2), some (vi v2), none, none]) (pc' := 41) d_Mod_without_40 rfl (by decide) rfl ?_
        refine G.iload_n (pc' := 42) d_Mod_without_41 rfl rfl ?_
        refine G.iconst (v := (-1)) (pc' := 43) d_Mod_without_42 rfl kI_m1 ?_
        refine G.icmp_ne (pc' := 46) (tgt := 50) d_Mod_without_43 rfl (by decide) ?_ ?_
        · refine G.iconst (v := (-1)) (pc' := 47) d_Mod_without_46 rfl kI_m1 ?_
          refine G.goto (tgt := 60) d_Mod_without_47 (by decide) ?_
          refine G.mask [true, false, false, false, false, false] (ρ' := [some (vr 31), none, none, none, none, none]) rfl ?_
          exact t_Mod_without_60 (-1) s2
        · refine G.aload_n (pc' := 51) d_Mod_without_50 rfl rfl ?_
          refine G.iload_n (pc' := 52) d_Mod_without_51 rfl rfl ?_
          refine G.iload_n (pc' := 53) d_Mod_without_52 rfl rfl ?_
          refine G.aload_n (pc' := 54) d_Mod_without_53 rfl rfl ?_
          refine G.get (pc' := 57) d_Mod_without_54 rfl fg_Mod_133 (HX_31 _ _) rfl ?_
          refine G.callVi (As := [vi l1, vi v2, vi (s2 31 4)]) (n := 3) (i := 31) (ci := 8) (st := []) (t_Mod_asking l1 v2 (s2 31 4) s2 _) (pc' := 60) d_Mod_without_57 rfl lm_Mod_136 mk_Mod_asking mv_Mod_asking ⟨rfl, rfl⟩ ⟨by decide, by decide⟩ (HX_31 _ _) rfl rfl rfl rfl ⟨Nat.le_refl _, Nat.le_refl _⟩ rfl (fun v3 s3 => ?_)
          refine G.mask [true, false, false, false, false, false] (ρ' := [some (vr 31), none, none, none, none, none]) rfl ?_
          exact t_Mod_without_60 v3 s3
    · refine G.iconst (v := (-1)) (pc' := 28) d_Mod_without_27 rfl kI_m1 ?_
      exact G.iret d_Mod_without_28 rfl ⟨Nat.le_refl _, Nat.le_refl _⟩
theorem t_Mod_left (l1 : Int32) (s : Sg) (R : List AC) : Ct q_Mod_left [vr 31, vi l1] s R (f_Mod_left l1 s) := by
  refine Ct.of (by decide) rfl (ρ := [some (vr 31), some (vi l1)]) rfl ?_
  unfold f_Mod_left
  refine G.aload_n (pc' := 1) d_Mod_left_0 rfl rfl ?_
  refine G.iconst (v := 0) (pc' := 2) d_Mod_left_1 rfl kI_0 ?_
  refine G.put (s' := wr s 31 0 0) (pc' := 5) d_Mod_left_2 rfl fp_Mod_102 trivial (HX_31 _ _) rfl (HXf_31_0 _ _ _) ?_
  refine G.iload_n (pc' := 6) d_Mod_left_5 rfl rfl ?_
  refine G.if_lt (pc' := 9) (tgt := 17) d_Mod_left_6 rfl (by decide) ?_ ?_
  · refine G.iconst (v := (-1)) (pc' := 18) d_Mod_left_17 rfl kI_m1 ?_
    refine G.goto (tgt := 27) d_Mod_left_18 (by decide) ?_
    exact G.iret d_Mod_left_27 rfl ⟨Nat.le_refl _, Nat.le_refl _⟩
  · refine G.iload_n (pc' := 10) d_Mod_left_9 rfl rfl ?_
    refine G.aload_n (pc' := 11) d_Mod_left_10 rfl rfl ?_
    refine G.get (pc' := 14) d_Mod_left_11 rfl fg_Mod_212 (HX_31 _ _) rfl ?_
    refine G.eqv (w := vi (s 31 42)) rfl ?_
    refine G.icmp_lt (pc' := 17) (tgt := 21) d_Mod_left_14 rfl (by decide) ?_ ?_
    · refine G.aload_n (pc' := 22) d_Mod_left_21 rfl rfl ?_
      refine G.get (pc' := 25) d_Mod_left_22 rfl fg_Mod_93 (HX_31 _ _) rfl ?_
      refine G.iload_n (pc' := 26) d_Mod_left_25 rfl rfl ?_
      refine G.iald (pc' := 27) d_Mod_left_26 rfl (HX_58 _ _) ?_
      refine G.eqv (w := vi (s 58 (ix l1))) rfl ?_
      exact G.iret d_Mod_left_27 rfl ⟨Nat.le_refl _, Nat.le_refl _⟩
    · refine G.iconst (v := (-1)) (pc' := 18) d_Mod_left_17 rfl kI_m1 ?_
      refine G.goto (tgt := 27) d_Mod_left_18 (by decide) ?_
      exact G.iret d_Mod_left_27 rfl ⟨Nat.le_refl _, Nat.le_refl _⟩
