theorem t_Clo_bring_23 (l1 l2 : Int32) (s : Sg) (R : List AC) : Ct q_Clo_bring [vr 23, vi l1, vi l2] s R (f_Clo_bring 23 l1 l2 s) := by
  refine Ct.of (by decide) rfl (ρ := [some (vr 23), some (vi l1), some (vi l2)]) rfl ?_
  unfold f_Clo_bring
  refine G.aload_n (pc' := 1) d_Clo_bring_0 rfl rfl ?_
  refine G.get (pc' := 4) d_Clo_bring_1 rfl fg_Clo_9 (HX_23 _ _) rfl ?_
  refine G.iload_n (pc' := 5) d_Clo_bring_4 rfl rfl ?_
  refine G.iald (pc' := 6) d_Clo_bring_5 rfl (HX_24 _ _) ?_
  refine G.if_ne (pc' := 9) (tgt := 46) d_Clo_bring_6 rfl (by decide) ?_ ?_
  · refine G.aload_n (pc' := 10) d_Clo_bring_9 rfl rfl ?_
    refine G.get (pc' := 13) d_Clo_bring_10 rfl fg_Clo_18 (HX_23 _ _) rfl ?_
    refine G.sipush (v := 220) (pc' := 16) d_Clo_bring_13 rfl kS_220 ?_
    refine G.icmp_ge (pc' := 19) (tgt := 46) d_Clo_bring_16 rfl (by decide) ?_ ?_
    · exact G.vret d_Clo_bring_46 rfl ⟨Nat.le_refl _, Nat.le_refl _⟩
    · refine G.aload_n (pc' := 20) d_Clo_bring_19 rfl rfl ?_
      refine G.get (pc' := 23) d_Clo_bring_20 rfl fg_Clo_9 (HX_23 _ _) rfl ?_
      refine G.iload_n (pc' := 24) d_Clo_bring_23 rfl rfl ?_
      refine G.iload_n (pc' := 25) d_Clo_bring_24 rfl rfl ?_
      refine G.iast (s' := wr s 24 (ix l1) l2) (pc' := 26) d_Clo_bring_25 rfl (HX_24 _ _) (HXa_24 _ _ _ _) ?_
      refine G.aload_n (pc' := 27) d_Clo_bring_26 rfl rfl ?_
      refine G.get (pc' := 30) d_Clo_bring_27 rfl fg_Clo_15 (HX_23 _ _) rfl ?_
      refine G.aload_n (pc' := 31) d_Clo_bring_30 rfl rfl ?_
      refine G.get (pc' := 34) d_Clo_bring_31 rfl fg_Clo_18 (HX_23 _ _) rfl ?_
      refine G.eqv (w := vi (s 23 3)) rfl ?_
      refine G.iload_n (pc' := 35) d_Clo_bring_34 rfl rfl ?_
      refine G.iast (s' := wr (wr s 24 (ix l1) l2) 25 (ix (s 23 3)) l1) (pc' := 36) d_Clo_bring_35 rfl (HX_25 _ _) (HXa_25 _ _ _ _) ?_
      refine G.aload_n (pc' := 37) d_Clo_bring_36 rfl rfl ?_
      refine G.dup (pc' := 38) d_Clo_bring_37 rfl ?_
      refine G.get (pc' := 41) d_Clo_bring_38 rfl fg_Clo_18 (HX_23 _ _) rfl ?_
      refine G.eqv (w := vi (s 23 3)) rfl ?_
      refine G.iconst (v := 1) (pc' := 42) d_Clo_bring_41 rfl kI_1 ?_
      refine G.iadd (pc' := 43) d_Clo_bring_42 rfl ?_
      refine G.put (s' := wr (wr (wr s 24 (ix l1) l2) 25 (ix (s 23 3)) l1) 23 3 ((s 23 3) + 1)) (pc' := 46) d_Clo_bring_43 rfl fp_Clo_18 trivial (HX_23 _ _) rfl (HXf_23_3 _ _ _) ?_
      exact G.vret d_Clo_bring_46 rfl ⟨Nat.le_refl _, Nat.le_refl _⟩
  · exact G.vret d_Clo_bring_46 rfl ⟨Nat.le_refl _, Nat.le_refl _⟩
theorem t_Clo_bring_26 (l1 l2 : Int32) (s : Sg) (R : List AC) : Ct q_Clo_bring [vr 26, vi l1, vi l2] s R (f_Clo_bring 26 l1 l2 s) := by
  refine Ct.of (by decide) rfl (ρ := [some (vr 26), some (vi l1), some (vi l2)]) rfl ?_
  unfold f_Clo_bring
  refine G.aload_n (pc' := 1) d_Clo_bring_0 rfl rfl ?_
  refine G.get (pc' := 4) d_Clo_bring_1 rfl fg_Clo_9 (HX_26 _ _) rfl ?_
  refine G.iload_n (pc' := 5) d_Clo_bring_4 rfl rfl ?_
  refine G.iald (pc' := 6) d_Clo_bring_5 rfl (HX_27 _ _) ?_
  refine G.if_ne (pc' := 9) (tgt := 46) d_Clo_bring_6 rfl (by decide) ?_ ?_
  · refine G.aload_n (pc' := 10) d_Clo_bring_9 rfl rfl ?_
    refine G.get (pc' := 13) d_Clo_bring_10 rfl fg_Clo_18 (HX_26 _ _) rfl ?_
    refine G.sipush (v := 220) (pc' := 16) d_Clo_bring_13 rfl kS_220 ?_
    refine G.icmp_ge (pc' := 19) (tgt := 46) d_Clo_bring_16 rfl (by decide) ?_ ?_
    · exact G.vret d_Clo_bring_46 rfl ⟨Nat.le_refl _, Nat.le_refl _⟩
    · refine G.aload_n (pc' := 20) d_Clo_bring_19 rfl rfl ?_
      refine G.get (pc' := 23) d_Clo_bring_20 rfl fg_Clo_9 (HX_26 _ _) rfl ?_
      refine G.iload_n (pc' := 24) d_Clo_bring_23 rfl rfl ?_
      refine G.iload_n (pc' := 25) d_Clo_bring_24 rfl rfl ?_
      refine G.iast (s' := wr s 27 (ix l1) l2) (pc' := 26) d_Clo_bring_25 rfl (HX_27 _ _) (HXa_27 _ _ _ _) ?_
      refine G.aload_n (pc' := 27) d_Clo_bring_26 rfl rfl ?_
      refine G.get (pc' := 30) d_Clo_bring_27 rfl fg_Clo_15 (HX_26 _ _) rfl ?_
      refine G.aload_n (pc' := 31) d_Clo_bring_30 rfl rfl ?_
      refine G.get (pc' := 34) d_Clo_bring_31 rfl fg_Clo_18 (HX_26 _ _) rfl ?_
      refine G.eqv (w := vi (s 26 3)) rfl ?_
      refine G.iload_n (pc' := 35) d_Clo_bring_34 rfl rfl ?_
      refine G.iast (s' := wr (wr s 27 (ix l1) l2) 28 (ix (s 26 3)) l1) (pc' := 36) d_Clo_bring_35 rfl (HX_28 _ _) (HXa_28 _ _ _ _) ?_
      refine G.aload_n (pc' := 37) d_Clo_bring_36 rfl rfl ?_
      refine G.dup (pc' := 38) d_Clo_bring_37 rfl ?_
      refine G.get (pc' := 41) d_Clo_bring_38 rfl fg_Clo_18 (HX_26 _ _) rfl ?_
      refine G.eqv (w := vi (s 26 3)) rfl ?_
      refine G.iconst (v := 1) (pc' := 42) d_Clo_bring_41 rfl kI_1 ?_
      refine G.iadd (pc' := 43) d_Clo_bring_42 rfl ?_
      refine G.put (s' := wr (wr (wr s 27 (ix l1) l2) 28 (ix (s 26 3)) l1) 26 3 ((s 26 3) + 1)) (pc' := 46) d_Clo_bring_43 rfl fp_Clo_18 trivial (HX_26 _ _) rfl (HXf_26_3 _ _ _) ?_
      exact G.vret d_Clo_bring_46 rfl ⟨Nat.le_refl _, Nat.le_refl _⟩
  · exact G.vret d_Clo_bring_46 rfl ⟨Nat.le_refl _, Nat.le_refl _⟩
theorem t_Clo_bringThere_23 (l1 l2 l3 : Int32) (s : Sg) (R : List AC) : Ct q_Clo_bringThere [vr 23, vi l1, vi l2, vi l3] s R (f_Clo_bringThere 23 l1 l2 l3 s) := by
  refine Ct.of (by decide) rfl (ρ := [some (vr 23), some (vi l1), some (vi l2), some (vi l3)]) rfl ?_
  unfold f_Clo_bringThere
  refine G.aload_n (pc' := 1) d_Clo_bringThere_0 rfl rfl ?_
  refine G.iconst (v := 2) (pc' := 2) d_Clo_bringThere_1 rfl kI_2 ?_
  refine G.iload_n (pc' := 3) d_Clo_bringThere_2 rfl rfl ?_
  refine G.imul (pc' := 4) d_Clo_bringThere_3 rfl ?_
  refine G.iload_n (pc' := 5) d_Clo_bringThere_4 rfl rfl ?_
  refine G.iadd (pc' := 6) d_Clo_bringThere_5 rfl ?_
  refine G.iload_n (pc' := 7) d_Clo_bringThere_6 rfl rfl ?_
  refine G.callVv (As := [vi ((2 * l1) + l2), vi l3]) (n := 2) (i := 23) (ci := 6) (st := []) (t_Clo_bring_23 ((2 * l1) + l2) l3 s _) (pc' := 10) d_Clo_bringThere_7 rfl lm_Clo_154 mk_Clo_bring mv_Clo_bring ⟨rfl, rfl⟩ ⟨by decide, by decide⟩ (HX_23 _ _) rfl rfl rfl rfl ⟨Nat.le_refl _, Nat.le_refl _⟩ rfl (fun v1 s1 => ?_)
  exact G.vret d_Clo_bringThere_10 rfl ⟨Nat.le_refl _, Nat.le_refl _⟩
theorem t_Clo_bringThere_26 (l1 l2 l3 : Int32) (s : Sg) (R : List AC) : Ct q_Clo_bringThere [vr 26, vi l1, vi l2, vi l3] s R (f_Clo_bringThere 26 l1 l2 l3 s) := by
  refine Ct.of (by decide) rfl (ρ := [some (vr 26), some (vi l1), some (vi l2), some (vi l3)]) rfl ?_
  unfold f_Clo_bringThere
  refine G.aload_n (pc' := 1) d_Clo_bringThere_0 rfl rfl ?_
  refine G.iconst (v := 2) (pc' := 2) d_Clo_bringThere_1 rfl kI_2 ?_
  refine G.iload_n (pc' := 3) d_Clo_bringThere_2 rfl rfl ?_
  refine G.imul (pc' := 4) d_Clo_bringThere_3 rfl ?_
  refine G.iload_n (pc' := 5) d_Clo_bringThere_4 rfl rfl ?_
  refine G.iadd (pc' := 6) d_Clo_bringThere_5 rfl ?_
  refine G.iload_n (pc' := 7) d_Clo_bringThere_6 rfl rfl ?_
  refine G.callVv (As := [vi ((2 * l1) + l2), vi l3]) (n := 2) (i := 26) (ci := 6) (st := []) (t_Clo_bring_26 ((2 * l1) + l2) l3 s _) (pc' := 10) d_Clo_bringThere_7 rfl lm_Clo_154 mk_Clo_bring mv_Clo_bring ⟨rfl, rfl⟩ ⟨by decide, by decide⟩ (HX_26 _ _) rfl rfl rfl rfl ⟨Nat.le_refl _, Nat.le_refl _⟩ rfl (fun v1 s1 => ?_)
  exact G.vret d_Clo_bringThere_10 rfl ⟨Nat.le_refl _, Nat.le_refl _⟩
theorem t_Clo_bringLive_23 (l1 l2 l3 : Int32) (s : Sg) (R : List AC) : Ct q_Clo_bringLive [vr 23, vi l1, vi l2, vi l3] s R (f_Clo_bringLive 23 l1 l2 l3 s) := by
  refine Ct.of (by decide) rfl (ρ := [some (vr 23), some (vi l1), some (vi l2), some (vi l3)]) rfl ?_
  unfold f_Clo_bringLive
  refine G.aload_n (pc' := 1) d_Clo_bringLive_0 rfl rfl ?_
  refine G.get (pc' := 4) d_Clo_bringLive_1 rfl fg_Clo_22 (HX_23 _ _) rfl ?_
  refine G.iload_n (pc' := 5) d_Clo_bringLive_4 rfl rfl ?_
  refine G.callVi (As := [vi l1]) (n := 1) (i := 21) (ci := 5) (st := []) (t_Snap_counts l1 s _) (pc' := 8) d_Clo_bringLive_5 rfl lm_Clo_148 mk_Snap_counts mv_Snap_counts ⟨rfl, rfl⟩ ⟨by decide, by decide⟩ (HX_21 _ _) rfl rfl rfl rfl ⟨Nat.le_refl _, Nat.le_refl _⟩ rfl (fun v1 s1 => ?_)
  refine G.if_eq (pc' := 11) (tgt := 24) d_Clo_bringLive_8 rfl (by decide) ?_ ?_
  · exact G.vret d_Clo_bringLive_24 rfl ⟨Nat.le_refl _, Nat.le_refl _⟩
  · refine G.aload_n (pc' := 12) d_Clo_bringLive_11 rfl rfl ?_
    refine G.bipush (v := 20) (pc' := 14) d_Clo_bringLive_12 rfl kB_20 ?_
    refine G.iconst (v := 2) (pc' := 15) d_Clo_bringLive_14 rfl kI_2 ?_
    refine G.iload_n (pc' := 16) d_Clo_bringLive_15 rfl rfl ?_
    refine G.imul (pc' := 17) d_Clo_bringLive_16 rfl ?_
    refine G.iadd (pc' := 18) d_Clo_bringLive_17 rfl ?_
    refine G.iload_n (pc' := 19) d_Clo_bringLive_18 rfl rfl ?_
    refine G.iadd (pc' := 20) d_Clo_bringLive_19 rfl ?_
    refine G.iload_n (pc' := 21) d_Clo_bringLive_20 rfl rfl ?_
    refine G.callVv (As := [vi ((20 + (2 * l1)) + l2), vi l3]) (n := 2) (i := 23) (ci := 6) (st := []) (t_Clo_bring_23 ((20 + (2 * l1)) + l2) l3 s1 _) (pc' := 24) d_Clo_bringLive_21 rfl lm_Clo_154 mk_Clo_bring mv_Clo_bring ⟨rfl, rfl⟩ ⟨by decide, by decide⟩ (HX_23 _ _) rfl rfl rfl rfl ⟨Nat.le_refl _, Nat.le_refl _⟩ rfl (fun v2 s2 => ?_)
    exact G.vret d_Clo_bringLive_24 rfl ⟨Nat.le_refl _, Nat.le_refl _⟩
theorem t_Clo_bringLive_26 (l1 l2 l3 : Int32) (s : Sg) (R : List AC) : Ct q_Clo_bringLive [vr 26, vi l1, vi l2, vi l3] s R (f_Clo_bringLive 26 l1 l2 l3 s) := by
  refine Ct.of (by decide) rfl (ρ := [some (vr 26), some (vi l1), some (vi l2), some (vi l3)]) rfl ?_
  unfold f_Clo_bringLive
  refine G.aload_n (pc' := 1) d_Clo_bringLive_0 rfl rfl ?_
  refine G.get (pc' := 4) d_Clo_bringLive_1 rfl fg_Clo_22 (HX_26 _ _) rfl ?_
  refine G.iload_n (pc' := 5) d_Clo_bringLive_4 rfl rfl ?_
  refine G.callVi (As := [vi l1]) (n := 1) (i := 21) (ci := 5) (st := []) (t_Snap_counts l1 s _) (pc' := 8) d_Clo_bringLive_5 rfl lm_Clo_148 mk_Snap_counts mv_Snap_counts ⟨rfl, rfl⟩ ⟨by decide, by decide⟩ (HX_21 _ _) rfl rfl rfl rfl ⟨Nat.le_refl _, Nat.le_refl _⟩ rfl (fun v1 s1 => ?_)
  refine G.if_eq (pc' := 11) (tgt := 24) d_Clo_bringLive_8 rfl (by decide) ?_ ?_
  · exact G.vret d_Clo_bringLive_24 rfl ⟨Nat.le_refl _, Nat.le_refl _⟩
  · refine G.aload_n (pc' := 12) d_Clo_bringLive_11 rfl rfl ?_
    refine G.bipush (v := 20) (pc' := 14) d_Clo_bringLive_12 rfl kB_20 ?_
    refine G.iconst (v := 2) (pc' := 15) d_Clo_bringLive_14 rfl kI_2 ?_
    refine G.iload_n (pc' := 16) d_Clo_bringLive_15 rfl rfl ?_
    refine G.imul (pc' := 17) d_Clo_bringLive_16 rfl ?_
    refine G.iadd (pc' := 18) d_Clo_bringLive_17 rfl ?_
    refine G.iload_n (pc' := 19) d_Clo_bringLive_18 rfl rfl ?_
    refine G.iadd (pc' := 20) d_Clo_bringLive_19 rfl ?_
    refine G.iload_n (pc' := 21) d_Clo_bringLive_20 rfl rfl ?_
    refine G.callVv (As := [vi ((20 + (2 * l1)) + l2), vi l3]) (n := 2) (i := 26) (ci := 6) (st := []) (t_Clo_bring_26 ((20 + (2 * l1)) + l2) l3 s1 _) (pc' := 24) d_Clo_bringLive_21 rfl lm_Clo_154 mk_Clo_bring mv_Clo_bring ⟨rfl, rfl⟩ ⟨by decide, by decide⟩ (HX_26 _ _) rfl rfl rfl rfl ⟨Nat.le_refl _, Nat.le_refl _⟩ rfl (fun v2 s2 => ?_)
    exact G.vret d_Clo_bringLive_24 rfl ⟨Nat.le_refl _, Nat.le_refl _⟩
theorem t_Clo_onStage_23 (l1 l2 : Int32) (s : Sg) (R : List AC) : Ct q_Clo_onStage [vr 23, vi l1, vi l2] s R (f_Clo_onStage 23 l1 l2 s) := by
  refine Ct.of (by decide) rfl (ρ := [some (vr 23), some (vi l1), some (vi l2)]) rfl ?_
  unfold f_Clo_onStage
  refine G.aload_n (pc' := 1) d_Clo_onStage_0 rfl rfl ?_
  refine G.get (pc' := 4) d_Clo_onStage_1 rfl fg_Clo_9 (HX_23 _ _) rfl ?_
  refine G.bipush (v := 100) (pc' := 6) d_Clo_onStage_4 rfl kB_100 ?_
  refine G.iconst (v := 2) (pc' := 7) d_Clo_onStage_6 rfl kI_2 ?_
  refine G.iload_n (pc' := 8) d_Clo_onStage_7 rfl rfl ?_
  refine G.imul (pc' := 9) d_Clo_onStage_8 rfl ?_
  refine G.iadd (pc' := 10) d_Clo_onStage_9 rfl ?_
  refine G.iload_n (pc' := 11) d_Clo_onStage_10 rfl rfl ?_
  refine G.iadd (pc' := 12) d_Clo_onStage_11 rfl ?_
  refine G.iald (pc' := 13) d_Clo_onStage_12 rfl (HX_24 _ _) ?_
  exact G.iret d_Clo_onStage_13 rfl ⟨Nat.le_refl _, Nat.le_refl _⟩
theorem t_Clo_onStage_26 (l1 l2 : Int32) (s : Sg) (R : List AC) : Ct q_Clo_onStage [vr 26, vi l1, vi l2] s R (f_Clo_onStage 26 l1 l2 s) := by
  refine Ct.of (by decide) rfl (ρ := [some (vr 26), some (vi l1), some (vi l2)]) rfl ?_
  unfold f_Clo_onStage
  refine G.aload_n (pc' := 1) d_Clo_onStage_0 rfl rfl ?_
  refine G.get (pc' := 4) d_Clo_onStage_1 rfl fg_Clo_9 (HX_26 _ _) rfl ?_
  refine G.bipush (v := 100) (pc' := 6) d_Clo_onStage_4 rfl kB_100 ?_
  refine G.iconst (v := 2) (pc' := 7) d_Clo_onStage_6 rfl kI_2 ?_
  refine G.iload_n (pc' := 8) d_Clo_onStage_7 rfl rfl ?_
  refine G.imul (pc' := 9) d_Clo_onStage_8 rfl ?_
  refine G.iadd (pc' := 10) d_Clo_onStage_9 rfl ?_
  refine G.iload_n (pc' := 11) d_Clo_onStage_10 rfl rfl ?_
  refine G.iadd (pc' := 12) d_Clo_onStage_11 rfl ?_
  refine G.iald (pc' := 13) d_Clo_onStage_12 rfl (HX_27 _ _) ?_
  exact G.iret d_Clo_onStage_13 rfl ⟨Nat.le_refl _, Nat.le_refl _⟩
theorem t_Clo_isBy (l0 l1 : Int32) (s : Sg) (R : List AC) : Ct q_Clo_isBy [vi l0, vi l1] s R (f_Clo_isBy l0 l1 s) := by
  refine Ct.of (by decide) rfl (ρ := [some (vi l0), some (vi l1)]) rfl ?_
  unfold f_Clo_isBy
  refine G.iload_n (pc' := 1) d_Clo_isBy_0 rfl rfl ?_
  refine G.if_eq (pc' := 4) (tgt := 13) d_Clo_isBy_1 rfl (by decide) ?_ ?_
  · refine G.iconst (v := 0) (pc' := 14) d_Clo_isBy_13 rfl kI_0 ?_
    exact G.zretK (by decide) d_Clo_isBy_14 rfl ⟨Nat.le_refl _, Nat.le_refl _⟩
  · refine G.iload_n (pc' := 5) d_Clo_isBy_4 rfl rfl ?_
    refine G.iload_n (pc' := 6) d_Clo_isBy_5 rfl rfl ?_
    refine G.icmp_gt (pc' := 9) (tgt := 13) d_Clo_isBy_6 rfl (by decide) ?_ ?_
    · refine G.iconst (v := 0) (pc' := 14) d_Clo_isBy_13 rfl kI_0 ?_
      exact G.zretK (by decide) d_Clo_isBy_14 rfl ⟨Nat.le_refl _, Nat.le_refl _⟩
    · refine G.iconst (v := 1) (pc' := 10) d_Clo_isBy_9 rfl kI_1 ?_
      refine G.goto (tgt := 14) d_Clo_isBy_10 (by decide) ?_
      exact G.zretK (by decide) d_Clo_isBy_14 rfl ⟨Nat.le_refl _, Nat.le_refl _⟩
theorem t_Clo_bringOn_23 (l1 l2 l3 : Int32) (s : Sg) (R : List AC) : Ct q_Clo_bringOn [vr 23, vi l1, vi l2, vi l3] s R (f_Clo_bringOn 23 l1 l2 l3 s) := by
  refine Ct.of (by decide) rfl (ρ := [some (vr 23), some (vi l1), some (vi l2), some (vi l3)]) rfl ?_
  unfold f_Clo_bringOn
  refine G.aload_n (pc' := 1) d_Clo_bringOn_0 rfl rfl ?_
  refine G.bipush (v := 100) (pc' := 3) d_Clo_bringOn_1 rfl kB_100 ?_
  refine G.iconst (v := 2) (pc' := 4) d_Clo_bringOn_3 rfl kI_2 ?_
  refine G.iload_n (pc' := 5) d_Clo_bringOn_4 rfl rfl ?_
  refine G.imul (pc' := 6) d_Clo_bringOn_5 rfl ?_
  refine G.iadd (pc' := 7) d_Clo_bringOn_6 rfl ?_
  refine G.iload_n (pc' := 8) d_Clo_bringOn_7 rfl rfl ?_
  refine G.iadd (pc' := 9) d_Clo_bringOn_8 rfl ?_
  refine G.iload_n (pc' := 10) d_Clo_bringOn_9 rfl rfl ?_
  refine G.callVv (As := [vi ((100 + (2 * l1)) + l2), vi l3]) (n := 2) (i := 23) (ci := 6) (st := []) (t_Clo_bring_23 ((100 + (2 * l1)) + l2) l3 s _) (pc' := 13) d_Clo_bringOn_10 rfl lm_Clo_154 mk_Clo_bring mv_Clo_bring ⟨rfl, rfl⟩ ⟨by decide, by decide⟩ (HX_23 _ _) rfl rfl rfl rfl ⟨Nat.le_refl _, Nat.le_refl _⟩ rfl (fun v1 s1 => ?_)
  exact G.vret d_Clo_bringOn_13 rfl ⟨Nat.le_refl _, Nat.le_refl _⟩
theorem t_Clo_bringOn_26 (l1 l2 l3 : Int32) (s : Sg) (R : List AC) : Ct q_Clo_bringOn [vr 26, vi l1, vi l2, vi l3] s R (f_Clo_bringOn 26 l1 l2 l3 s) := by
  refine Ct.of (by decide) rfl (ρ := [some (vr 26), some (vi l1), some (vi l2), some (vi l3)]) rfl ?_
  unfold f_Clo_bringOn
  refine G.aload_n (pc' := 1) d_Clo_bringOn_0 rfl rfl ?_
  refine G.bipush (v := 100) (pc' := 3) d_Clo_bringOn_1 rfl kB_100 ?_
  refine G.iconst (v := 2) (pc' := 4) d_Clo_bringOn_3 rfl kI_2 ?_
  refine G.iload_n (pc' := 5) d_Clo_bringOn_4 rfl rfl ?_
  refine G.imul (pc' := 6) d_Clo_bringOn_5 rfl ?_
  refine G.iadd (pc' := 7) d_Clo_bringOn_6 rfl ?_
  refine G.iload_n (pc' := 8) d_Clo_bringOn_7 rfl rfl ?_
  refine G.iadd (pc' := 9) d_Clo_bringOn_8 rfl ?_
  refine G.iload_n (pc' := 10) d_Clo_bringOn_9 rfl rfl ?_
  refine G.callVv (As := [vi ((100 + (2 * l1)) + l2), vi l3]) (n := 2) (i := 26) (ci := 6) (st := []) (t_Clo_bring_26 ((100 + (2 * l1)) + l2) l3 s _) (pc' := 13) d_Clo_bringOn_10 rfl lm_Clo_154 mk_Clo_bring mv_Clo_bring ⟨rfl, rfl⟩ ⟨by decide, by decide⟩ (HX_26 _ _) rfl rfl rfl rfl ⟨Nat.le_refl _, Nat.le_refl _⟩ rfl (fun v1 s1 => ?_)
  exact G.vret d_Clo_bringOn_13 rfl ⟨Nat.le_refl _, Nat.le_refl _⟩
theorem t_Clo_followThere_23_170 {R : List AC} (rec67 : Int32 → Sg → Ro) (l1 : Int32) (l2 l3 l4 : Int32) (hrec67 : ∀ (l4 : Int32) (s : Sg), Gd q_Clo_followThere none 67 [some (vr 23), some (vi l1), some (vi l2), some (vi l3), some (vi l4), none, none] [] s R 0 0 (rec67 l4 s)) (s : Sg) : Gd q_Clo_followThere none 170 [some (vr 23), some (vi l1), some (vi l2), some (vi l3), some (vi l4), none, none] [] s R 0 0 (f_Clo_followThere_170 23 rec67 l2 l3 l4 s) := by
  unfold f_Clo_followThere_170
  refine G.aload_n (pc' := 171) d_Clo_followThere_170 rfl rfl ?_
  refine G.iload (pc' := 173) d_Clo_followThere_171 rfl rfl ?_
  refine G.iload_n (pc' := 174) d_Clo_followThere_173 rfl rfl ?_
  refine G.iload_n (pc' := 175) d_Clo_followThere_174 rfl rfl ?_
  refine G.iconst (v := 1) (pc' := 176) d_Clo_followThere_175 rfl kI_1 ?_
  refine G.iadd (pc' := 177) d_Clo_followThere_176 rfl ?_
  refine G.callVv (As := [vi l4, vi l2, vi (l3 + 1)]) (n := 3) (i := 23) (ci := 6) (st := []) (t_Clo_bringOn_23 l4 l2 (l3 + 1) s _) (pc' := 180) d_Clo_followThere_177 rfl lm_Clo_106 mk_Clo_bringOn mv_Clo_bringOn ⟨rfl, rfl⟩ ⟨by decide, by decide⟩ (HX_23 _ _) rfl rfl rfl rfl ⟨Nat.le_refl _, Nat.le_refl _⟩ rfl (fun v1 s1 => ?_)
  refine G.iinc (w := 1) (v := l4 + 1) (ρ' := [some (vr 23), some (vi l1), some (vi l2), some (vi l3), some (vi (l4 + 1)), none, none]) (pc' := 183) d_Clo_followThere_180 rfl rfl (by decide) kI_1 rfl rfl ?_
  refine G.goto (tgt := 67) d_Clo_followThere_183 (by decide) ?_
  exact hrec67 (l4 + 1) s1
theorem t_Clo_followThere_23_158 {R : List AC} (rec67 : Int32 → Sg → Ro) (l1 : Int32) (l2 l3 l4 l5 : Int32) (t0 : Int32) (hrec67 : ∀ (l4 : Int32) (s : Sg), Gd q_Clo_followThere none 67 [some (vr 23), some (vi l1), some (vi l2), some (vi l3), some (vi l4), none, none] [] s R 0 0 (rec67 l4 s)) (s : Sg) : Gd q_Clo_followThere none 158 [some (vr 23), some (vi l1), some (vi l2), some (vi l3), some (vi l4), some (vi l5), none] [vi t0] s R 0 0 (f_Clo_followThere_158 23 rec67 l2 l3 l4 l5 t0 s) := by
  unfold f_Clo_followThere_158
  refine G.istore (ρ' := [some (vr 23), some (vi l1), some (vi l2), some (vi l3), some (vi l4), some (vi l5), some (vi t0)]) (pc' := 160) d_Clo_followThere_158 rfl (by decide) rfl ?_
  refine G.iload (pc' := 162) d_Clo_followThere_160 rfl rfl ?_
  refine G.if_ne (pc' := 165) (tgt := 170) d_Clo_followThere_162 rfl (by decide) ?_ ?_
  · refine G.iload (pc' := 167) d_Clo_followThere_165 rfl rfl ?_
    refine G.if_eq (pc' := 170) (tgt := 180) d_Clo_followThere_167 rfl (by decide) ?_ ?_
    · refine G.iinc (w := 1) (v := l4 + 1) (ρ' := [some (vr 23), some (vi l1), some (vi l2), some (vi l3), some (vi (l4 + 1)), some (vi l5), some (vi t0)]) (pc' := 183) d_Clo_followThere_180 rfl rfl (by decide) kI_1 rfl rfl ?_
      refine G.goto (tgt := 67) d_Clo_followThere_183 (by decide) ?_
      refine G.mask [true, true, true, true, true, false, false] (ρ' := [some (vr 23), some (vi l1), some (vi l2), some (vi l3), some (vi (l4 + 1)), none, none]) rfl ?_
      exact hrec67 (l4 + 1) s
    · refine G.mask [true, true, true, true, true, false, false] (ρ' := [some (vr 23), some (vi l1), some (vi l2), some (vi l3), some (vi l4), none, none]) rfl ?_
      exact t_Clo_followThere_23_170 rec67 l1 l2 l3 l4 hrec67 s
  · refine G.mask [true, true, true, true, true, false, false] (ρ' := [some (vr 23), some (vi l1), some (vi l2), some (vi l3), some (vi l4), none, none]) rfl ?_
    exact t_Clo_followThere_23_170 rec67 l1 l2 l3 l4 hrec67 s
theorem t_Clo_followThere_23_157 {R : List AC} (rec67 : Int32 → Sg → Ro) (l1 : Int32) (l2 l3 l4 l5 : Int32) (hrec67 : ∀ (l4 : Int32) (s : Sg), Gd q_Clo_followThere none 67 [some (vr 23), some (vi l1), some (vi l2), some (vi l3), some (vi l4), none, none] [] s R 0 0 (rec67 l4 s)) (s : Sg) : Gd q_Clo_followThere none 157 [some (vr 23), some (vi l1), some (vi l2), some (vi l3), some (vi l4), some (vi l5), none] [] s R 0 0 (f_Clo_followThere_157 23 rec67 l2 l3 l4 l5 s) := by
  unfold f_Clo_followThere_157
  refine G.iconst (v := 0) (pc' := 158) d_Clo_followThere_157 rfl kI_0 ?_
  exact t_Clo_followThere_23_158 rec67 l1 l2 l3 l4 l5 0 hrec67 s
theorem t_Clo_followThere_23_120 {R : List AC} (rec67 : Int32 → Sg → Ro) (l1 l2 l3 l4 : Int32) (t0 : Int32) (hrec67 : ∀ (l4 : Int32) (s : Sg), Gd q_Clo_followThere none 67 [some (vr 23), some (vi l1), some (vi l2), some (vi l3), some (vi l4), none, none] [] s R 0 0 (rec67 l4 s)) (s : Sg) : Gd q_Clo_followThere none 120 [some (vr 23), some (vi l1), some (vi l2), some (vi l3), some (vi l4), none, none] [vi t0] s R 0 0 (f_Clo_followThere_120 23 rec67 l1 l2 l3 l4 t0 s) := by
  unfold f_Clo_followThere_120
  refine G.istore (ρ' := [some (vr 23), some (vi l1), some (vi l2), some (vi l3), some (vi l4), some (vi t0), none]) (pc' := 122) d_Clo_followThere_120 rfl (by decide) rfl ?_
  refine G.aload_n (pc' := 123) d_Clo_followThere_122 rfl rfl ?_
  refine G.get (pc' := 126) d_Clo_followThere_123 rfl fg_Clo_22 (HX_23 _ _) rfl ?_
  refine G.get (pc' := 129) d_Clo_followThere_126 rfl fg_Clo_90 (HX_21 _ _) rfl ?_
  refine G.get (pc' := 132) d_Clo_followThere_129 rfl fg_Clo_94 (HX_1 _ _) rfl ?_
  refine G.iload_n (pc' := 133) d_Clo_followThere_132 rfl rfl ?_
  refine G.zald (pc' := 134) d_Clo_followThere_133 rfl (HX_2 _ _) ?_
  refine G.if_ne (pc' := 137) (tgt := 157) d_Clo_followThere_134 rfl (by decide) ?_ ?_
  · refine G.aload_n (pc' := 138) d_Clo_followThere_137 rfl rfl ?_
    refine G.iload (pc' := 140) d_Clo_followThere_138 rfl rfl ?_
    refine G.iconst (v := 1) (pc' := 141) d_Clo_followThere_140 rfl kI_1 ?_
    refine G.iload_n (pc' := 142) d_Clo_followThere_141 rfl rfl ?_
    refine G.isub (pc' := 143) d_Clo_followThere_142 rfl ?_
    refine G.callVi (As := [vi l4, vi (1 - l2)]) (n := 2) (i := 23) (ci := 6) (st := []) (t_Clo_onStage_23 l4 (1 - l2) s _) (pc' := 146) d_Clo_followThere_143 rfl lm_Clo_99 mk_Clo_onStage mv_Clo_onStage ⟨rfl, rfl⟩ ⟨by decide, by decide⟩ (HX_23 _ _) rfl rfl rfl rfl ⟨Nat.le_refl _, Nat.le_refl _⟩ rfl (fun v1 s1 => ?_)
    refine G.iload_n (pc' := 147) d_Clo_followThere_146 rfl rfl ?_
    refine G.callSi (As := [vi v1, vi l3]) (n := 2) (st := []) (t_Clo_isBy v1 l3 s1 _) (pc' := 150) d_Clo_followThere_147 rfl lm_Clo_103 mk_Clo_isBy sx_Clo_isBy ⟨rfl, rfl⟩ ⟨by decide, by decide⟩ rfl rfl rfl ⟨Nat.le_refl _, Nat.le_refl _⟩ rfl (fun v2 s2 => ?_)
    refine G.if_eq (pc' := 153) (tgt := 157) d_Clo_followThere_150 rfl (by decide) ?_ ?_
    · exact t_Clo_followThere_23_157 rec67 l1 l2 l3 l4 t0 hrec67 s2
    · refine G.iconst (v := 1) (pc' := 154) d_Clo_followThere_153 rfl kI_1 ?_
      refine G.goto (tgt := 158) d_Clo_followThere_154 (by decide) ?_
      exact t_Clo_followThere_23_158 rec67 l1 l2 l3 l4 t0 1 hrec67 s2
  · exact t_Clo_followThere_23_157 rec67 l1 l2 l3 l4 t0 hrec67 s
theorem t_Clo_followThere_23_119 {R : List AC} (rec67 : Int32 → Sg → Ro) (l1 l2 l3 l4 : Int32) (hrec67 : ∀ (l4 : Int32) (s : Sg), Gd q_Clo_followThere none 67 [some (vr 23), some (vi l1), some (vi l2), some (vi l3), some (vi l4), none, none] [] s R 0 0 (rec67 l4 s)) (s : Sg) : Gd q_Clo_followThere none 119 [some (vr 23), some (vi l1), some (vi l2), some (vi l3), some (vi l4), none, none] [] s R 0 0 (f_Clo_followThere_119 23 rec67 l1 l2 l3 l4 s) := by
  unfold f_Clo_followThere_119
  refine G.iconst (v := 0) (pc' := 120) d_Clo_followThere_119 rfl kI_0 ?_
  exact t_Clo_followThere_23_120 rec67 l1 l2 l3 l4 0 hrec67 s
theorem t_Clo_followThere_23_67 {R : List AC}  (l1 l2 l3 : Int32) : ∀ (l4 : Int32) (s : Sg), Gd q_Clo_followThere none 67 [some (vr 23), some (vi l1), some (vi l2), some (vi l3), some (vi l4), none, none] [] s R 0 0 (f_Clo_followThere_67 23 l1 l2 l3 l4 s) := by
  intro l4 s
  unfold f_Clo_followThere_67
  refine G.loop1 (rf := fun l4 => [some (vr 23), some (vi l1), some (vi l2), some (vi l3), some (vi l4), none, none]) ?_ 4096 l4 s
  intro rec67 hrec67 l4 s
  refine G.iload (pc' := 69) d_Clo_followThere_67 rfl rfl ?_
  refine G.aload_n (pc' := 70) d_Clo_followThere_69 rfl rfl ?_
  refine G.get (pc' := 73) d_Clo_followThere_70 rfl fg_Clo_22 (HX_23 _ _) rfl ?_
  refine G.get (pc' := 76) d_Clo_followThere_73 rfl fg_Clo_74 (HX_21 _ _) rfl ?_
  refine G.icmp_ge (pc' := 79) (tgt := 186) d_Clo_followThere_76 rfl (by decide) ?_ ?_
  · exact G.vret d_Clo_followThere_186 rfl ⟨Nat.le_refl _, Nat.le_refl _⟩
  · refine G.aload_n (pc' := 80) d_Clo_followThere_79 rfl rfl ?_
    refine G.get (pc' := 83) d_Clo_followThere_80 rfl fg_Clo_22 (HX_23 _ _) rfl ?_
    refine G.get (pc' := 86) d_Clo_followThere_83 rfl fg_Clo_77 (HX_21 _ _) rfl ?_
    refine G.get (pc' := 89) d_Clo_followThere_86 rfl fg_Clo_81 (HX_3 _ _) rfl ?_
    refine G.iload (pc' := 91) d_Clo_followThere_89 rfl rfl ?_
    refine G.iald (pc' := 92) d_Clo_followThere_91 rfl (HX_4 _ _) ?_
    refine G.iload_n (pc' := 93) d_Clo_followThere_92 rfl rfl ?_
    refine G.icmp_eq (pc' := 96) (tgt := 99) d_Clo_followThere_93 rfl (by decide) ?_ ?_
    · refine G.iload_n (pc' := 100) d_Clo_followThere_99 rfl rfl ?_
      refine G.if_ne (pc' := 103) (tgt := 119) d_Clo_followThere_100 rfl (by decide) ?_ ?_
      · refine G.aload_n (pc' := 104) d_Clo_followThere_103 rfl rfl ?_
        refine G.get (pc' := 107) d_Clo_followThere_104 rfl fg_Clo_22 (HX_23 _ _) rfl ?_
        refine G.iload (pc' := 109) d_Clo_followThere_107 rfl rfl ?_
        refine G.callVi (As := [vi l4]) (n := 1) (i := 21) (ci := 5) (st := []) (t_Snap_isDefaultOfRoot l4 s _) (pc' := 112) d_Clo_followThere_109 rfl lm_Clo_86 mk_Snap_isDefaultOfRoot mv_Snap_isDefaultOfRoot ⟨rfl, rfl⟩ ⟨by decide, by decide⟩ (HX_21 _ _) rfl rfl rfl rfl ⟨Nat.le_refl _, Nat.le_refl _⟩ rfl (fun v1 s1 => ?_)
        refine G.if_eq (pc' := 115) (tgt := 119) d_Clo_followThere_112 rfl (by decide) ?_ ?_
        · exact t_Clo_followThere_23_119 rec67 l1 l2 l3 l4 hrec67 s1
        · refine G.iconst (v := 1) (pc' := 116) d_Clo_followThere_115 rfl kI_1 ?_
          refine G.goto (tgt := 120) d_Clo_followThere_116 (by decide) ?_
          exact t_Clo_followThere_23_120 rec67 l1 l2 l3 l4 1 hrec67 s1
      · exact t_Clo_followThere_23_119 rec67 l1 l2 l3 l4 hrec67 s
    · refine G.goto (tgt := 180) d_Clo_followThere_96 (by decide) ?_
      refine G.iinc (w := 1) (v := l4 + 1) (ρ' := [some (vr 23), some (vi l1), some (vi l2), some (vi l3), some (vi (l4 + 1)), none, none]) (pc' := 183) d_Clo_followThere_180 rfl rfl (by decide) kI_1 rfl rfl ?_
      refine G.goto (tgt := 67) d_Clo_followThere_183 (by decide) ?_
      exact hrec67 (l4 + 1) s
theorem t_Clo_followThere_23_3 {R : List AC}  (l1 l2 l3 : Int32) : ∀ (l4 : Int32) (s : Sg), Gd q_Clo_followThere none 3 [some (vr 23), some (vi l1), some (vi l2), some (vi l3), some (vi l4), none, none] [] s R 0 0 (f_Clo_followThere_3 23 l1 l2 l3 l4 s) := by
  intro l4 s
  unfold f_Clo_followThere_3
  refine G.loop1 (rf := fun l4 => [some (vr 23), some (vi l1), some (vi l2), some (vi l3), some (vi l4), none, none]) ?_ 4096 l4 s
  intro rec3 hrec3 l4 s
  refine G.iload (pc' := 5) d_Clo_followThere_3 rfl rfl ?_
  refine G.aload_n (pc' := 6) d_Clo_followThere_5 rfl rfl ?_
  refine G.get (pc' := 9) d_Clo_followThere_6 rfl fg_Clo_22 (HX_23 _ _) rfl ?_
  refine G.get (pc' := 12) d_Clo_followThere_9 rfl fg_Clo_55 (HX_21 _ _) rfl ?_
  refine G.icmp_ge (pc' := 15) (tgt := 64) d_Clo_followThere_12 rfl (by decide) ?_ ?_
  · refine G.iconst (v := 0) (pc' := 65) d_Clo_followThere_64 rfl kI_0 ?_
    refine G.istore (ρ' := [some (vr 23), some (vi l1), some (vi l2), some (vi l3), some (vi 0), none, none]) (pc' := 67) d_Clo_followThere_65 rfl (by decide) rfl ?_
    exact t_Clo_followThere_23_67 l1 l2 l3 0 s
  · refine G.aload_n (pc' := 16) d_Clo_followThere_15 rfl rfl ?_
    refine G.get (pc' := 19) d_Clo_followThere_16 rfl fg_Clo_22 (HX_23 _ _) rfl ?_
    refine G.get (pc' := 22) d_Clo_followThere_19 rfl fg_Clo_58 (HX_21 _ _) rfl ?_
    refine G.get (pc' := 25) d_Clo_followThere_22 rfl fg_Clo_62 (HX_8 _ _) rfl ?_
    refine G.iload (pc' := 27) d_Clo_followThere_25 rfl rfl ?_
    refine G.iald (pc' := 28) d_Clo_followThere_27 rfl (HX_9 _ _) ?_
    refine G.iload_n (pc' := 29) d_Clo_followThere_28 rfl rfl ?_
    refine G.icmp_ne (pc' := 32) (tgt := 58) d_Clo_followThere_29 rfl (by decide) ?_ ?_
    · refine G.aload_n (pc' := 33) d_Clo_followThere_32 rfl rfl ?_
      refine G.get (pc' := 36) d_Clo_followThere_33 rfl fg_Clo_22 (HX_23 _ _) rfl ?_
      refine G.get (pc' := 39) d_Clo_followThere_36 rfl fg_Clo_58 (HX_21 _ _) rfl ?_
      refine G.get (pc' := 42) d_Clo_followThere_39 rfl fg_Clo_67 (HX_8 _ _) rfl ?_
      refine G.iload (pc' := 44) d_Clo_followThere_42 rfl rfl ?_
      refine G.zald (pc' := 45) d_Clo_followThere_44 rfl (HX_15 _ _) ?_
      refine G.if_ne (pc' := 48) (tgt := 58) d_Clo_followThere_45 rfl (by decide) ?_ ?_
      · refine G.aload_n (pc' := 49) d_Clo_followThere_48 rfl rfl ?_
        refine G.iload (pc' := 51) d_Clo_followThere_49 rfl rfl ?_
        refine G.iload_n (pc' := 52) d_Clo_followThere_51 rfl rfl ?_
        refine G.iload_n (pc' := 53) d_Clo_followThere_52 rfl rfl ?_
        refine G.iconst (v := 1) (pc' := 54) d_Clo_followThere_53 rfl kI_1 ?_
        refine G.iadd (pc' := 55) d_Clo_followThere_54 rfl ?_
        refine G.callVv (As := [vi l4, vi l2, vi (l3 + 1)]) (n := 3) (i := 23) (ci := 6) (st := []) (t_Clo_bringLive_23 l4 l2 (l3 + 1) s _) (pc' := 58) d_Clo_followThere_55 rfl lm_Clo_71 mk_Clo_bringLive mv_Clo_bringLive ⟨rfl, rfl⟩ ⟨by decide, by decide⟩ (HX_23 _ _) rfl rfl rfl rfl ⟨Nat.le_refl _, Nat.le_refl _⟩ rfl (fun v1 s1 => ?_)
        refine G.iinc (w := 1) (v := l4 + 1) (ρ' := [some (vr 23), some (vi l1), some (vi l2), some (vi l3), some (vi (l4 + 1)), none, none]) (pc' := 61) d_Clo_followThere_58 rfl rfl (by decide) kI_1 rfl rfl ?_
        refine G.goto (tgt := 3) d_Clo_followThere_61 (by decide) ?_
        exact hrec3 (l4 + 1) s1
      · refine G.iinc (w := 1) (v := l4 + 1) (ρ' := [some (vr 23), some (vi l1), some (vi l2), some (vi l3), some (vi (l4 + 1)), none, none]) (pc' := 61) d_Clo_followThere_58 rfl rfl (by decide) kI_1 rfl rfl ?_
        refine G.goto (tgt := 3) d_Clo_followThere_61 (by decide) ?_
        exact hrec3 (l4 + 1) s
    · refine G.iinc (w := 1) (v := l4 + 1) (ρ' := [some (vr 23), some (vi l1), some (vi l2), some (vi l3), some (vi (l4 + 1)), none, none]) (pc' := 61) d_Clo_followThere_58 rfl rfl (by decide) kI_1 rfl rfl ?_
      refine G.goto (tgt := 3) d_Clo_followThere_61 (by decide) ?_
      exact hrec3 (l4 + 1) s
theorem t_Clo_followThere_23 (l1 l2 l3 : Int32) (s : Sg) (R : List AC) : Ct q_Clo_followThere [vr 23, vi l1, vi l2, vi l3] s R (f_Clo_followThere 23 l1 l2 l3 s) := by
  refine Ct.of (by decide) rfl (ρ := [some (vr 23), some (vi l1), some (vi l2), some (vi l3), none, none, none]) rfl ?_
  unfold f_Clo_followThere
  refine G.iconst (v := 0) (pc' := 1) d_Clo_followThere_0 rfl kI_0 ?_
  refine G.istore (ρ' := [some (vr 23), some (vi l1), some (vi l2), some (vi l3), some (vi 0), none, none]) (pc' := 3) d_Clo_followThere_1 rfl (by decide) rfl ?_
  exact t_Clo_followThere_23_3 l1 l2 l3 0 s
theorem t_Clo_followThere_26_170 {R : List AC} (rec67 : Int32 → Sg → Ro) (l1 : Int32) (l2 l3 l4 : Int32) (hrec67 : ∀ (l4 : Int32) (s : Sg), Gd q_Clo_followThere none 67 [some (vr 26), some (vi l1), some (vi l2), some (vi l3), some (vi l4), none, none] [] s R 0 0 (rec67 l4 s)) (s : Sg) : Gd q_Clo_followThere none 170 [some (vr 26), some (vi l1), some (vi l2), some (vi l3), some (vi l4), none, none] [] s R 0 0 (f_Clo_followThere_170 26 rec67 l2 l3 l4 s) := by
  unfold f_Clo_followThere_170
  refine G.aload_n (pc' := 171) d_Clo_followThere_170 rfl rfl ?_
  refine G.iload (pc' := 173) d_Clo_followThere_171 rfl rfl ?_
  refine G.iload_n (pc' := 174) d_Clo_followThere_173 rfl rfl ?_
  refine G.iload_n (pc' := 175) d_Clo_followThere_174 rfl rfl ?_
  refine G.iconst (v := 1) (pc' := 176) d_Clo_followThere_175 rfl kI_1 ?_
  refine G.iadd (pc' := 177) d_Clo_followThere_176 rfl ?_
  refine G.callVv (As := [vi l4, vi l2, vi (l3 + 1)]) (n := 3) (i := 26) (ci := 6) (st := []) (t_Clo_bringOn_26 l4 l2 (l3 + 1) s _) (pc' := 180) d_Clo_followThere_177 rfl lm_Clo_106 mk_Clo_bringOn mv_Clo_bringOn ⟨rfl, rfl⟩ ⟨by decide, by decide⟩ (HX_26 _ _) rfl rfl rfl rfl ⟨Nat.le_refl _, Nat.le_refl _⟩ rfl (fun v1 s1 => ?_)
  refine G.iinc (w := 1) (v := l4 + 1) (ρ' := [some (vr 26), some (vi l1), some (vi l2), some (vi l3), some (vi (l4 + 1)), none, none]) (pc' := 183) d_Clo_followThere_180 rfl rfl (by decide) kI_1 rfl rfl ?_
  refine G.goto (tgt := 67) d_Clo_followThere_183 (by decide) ?_
  exact hrec67 (l4 + 1) s1
theorem t_Clo_followThere_26_158 {R : List AC} (rec67 : Int32 → Sg → Ro) (l1 : Int32) (l2 l3 l4 l5 : Int32) (t0 : Int32) (hrec67 : ∀ (l4 : Int32) (s : Sg), Gd q_Clo_followThere none 67 [some (vr 26), some (vi l1), some (vi l2), some (vi l3), some (vi l4), none, none] [] s R 0 0 (rec67 l4 s)) (s : Sg) : Gd q_Clo_followThere none 158 [some (vr 26), some (vi l1), some (vi l2), some (vi l3), some (vi l4), some (vi l5), none] [vi t0] s R 0 0 (f_Clo_followThere_158 26 rec67 l2 l3 l4 l5 t0 s) := by
  unfold f_Clo_followThere_158
  refine G.istore (ρ' := [some (vr 26), some (vi l1), some (vi l2), some (vi l3), some (vi l4), some (vi l5), some (vi t0)]) (pc' := 160) d_Clo_followThere_158 rfl (by decide) rfl ?_
  refine G.iload (pc' := 162) d_Clo_followThere_160 rfl rfl ?_
  refine G.if_ne (pc' := 165) (tgt := 170) d_Clo_followThere_162 rfl (by decide) ?_ ?_
  · refine G.iload (pc' := 167) d_Clo_followThere_165 rfl rfl ?_
    refine G.if_eq (pc' := 170) (tgt := 180) d_Clo_followThere_167 rfl (by decide) ?_ ?_
    · refine G.iinc (w := 1) (v := l4 + 1) (ρ' := [some (vr 26), some (vi l1), some (vi l2), some (vi l3), some (vi (l4 + 1)), some (vi l5), some (vi t0)]) (pc' := 183) d_Clo_followThere_180 rfl rfl (by decide) kI_1 rfl rfl ?_
      refine G.goto (tgt := 67) d_Clo_followThere_183 (by decide) ?_
      refine G.mask [true, true, true, true, true, false, false] (ρ' := [some (vr 26), some (vi l1), some (vi l2), some (vi l3), some (vi (l4 + 1)), none, none]) rfl ?_
      exact hrec67 (l4 + 1) s
    · refine G.mask [true, true, true, true, true, false, false] (ρ' := [some (vr 26), some (vi l1), some (vi l2), some (vi l3), some (vi l4), none, none]) rfl ?_
      exact t_Clo_followThere_26_170 rec67 l1 l2 l3 l4 hrec67 s
  · refine G.mask [true, true, true, true, true, false, false] (ρ' := [some (vr 26), some (vi l1), some (vi l2), some (vi l3), some (vi l4), none, none]) rfl ?_
    exact t_Clo_followThere_26_170 rec67 l1 l2 l3 l4 hrec67 s
theorem t_Clo_followThere_26_157 {R : List AC} (rec67 : Int32 → Sg → Ro) (l1 : Int32) (l2 l3 l4 l5 : Int32) (hrec67 : ∀ (l4 : Int32) (s : Sg), Gd q_Clo_followThere none 67 [some (vr 26), some (vi l1), some (vi l2), some (vi l3), some (vi l4), none, none] [] s R 0 0 (rec67 l4 s)) (s : Sg) : Gd q_Clo_followThere none 157 [some (vr 26), some (vi l1), some (vi l2), some (vi l3), some (vi l4), some (vi l5), none] [] s R 0 0 (f_Clo_followThere_157 26 rec67 l2 l3 l4 l5 s) := by
  unfold f_Clo_followThere_157
  refine G.iconst (v := 0) (pc' := 158) d_Clo_followThere_157 rfl kI_0 ?_
  exact t_Clo_followThere_26_158 rec67 l1 l2 l3 l4 l5 0 hrec67 s
theorem t_Clo_followThere_26_120 {R : List AC} (rec67 : Int32 → Sg → Ro) (l1 l2 l3 l4 : Int32) (t0 : Int32) (hrec67 : ∀ (l4 : Int32) (s : Sg), Gd q_Clo_followThere none 67 [some (vr 26), some (vi l1), some (vi l2), some (vi l3), some (vi l4), none, none] [] s R 0 0 (rec67 l4 s)) (s : Sg) : Gd q_Clo_followThere none 120 [some (vr 26), some (vi l1), some (vi l2), some (vi l3), some (vi l4), none, none] [vi t0] s R 0 0 (f_Clo_followThere_120 26 rec67 l1 l2 l3 l4 t0 s) := by
  unfold f_Clo_followThere_120
  refine G.istore (ρ' := [some (vr 26), some (vi l1), some (vi l2), some (vi l3), some (vi l4), some (vi t0), none]) (pc' := 122) d_Clo_followThere_120 rfl (by decide) rfl ?_
  refine G.aload_n (pc' := 123) d_Clo_followThere_122 rfl rfl ?_
  refine G.get (pc' := 126) d_Clo_followThere_123 rfl fg_Clo_22 (HX_26 _ _) rfl ?_
  refine G.get (pc' := 129) d_Clo_followThere_126 rfl fg_Clo_90 (HX_21 _ _) rfl ?_
  refine G.get (pc' := 132) d_Clo_followThere_129 rfl fg_Clo_94 (HX_1 _ _) rfl ?_
  refine G.iload_n (pc' := 133) d_Clo_followThere_132 rfl rfl ?_
  refine G.zald (pc' := 134) d_Clo_followThere_133 rfl (HX_2 _ _) ?_
  refine G.if_ne (pc' := 137) (tgt := 157) d_Clo_followThere_134 rfl (by decide) ?_ ?_
  · refine G.aload_n (pc' := 138) d_Clo_followThere_137 rfl rfl ?_
    refine G.iload (pc' := 140) d_Clo_followThere_138 rfl rfl ?_
    refine G.iconst (v := 1) (pc' := 141) d_Clo_followThere_140 rfl kI_1 ?_
    refine G.iload_n (pc' := 142) d_Clo_followThere_141 rfl rfl ?_
    refine G.isub (pc' := 143) d_Clo_followThere_142 rfl ?_
    refine G.callVi (As := [vi l4, vi (1 - l2)]) (n := 2) (i := 26) (ci := 6) (st := []) (t_Clo_onStage_26 l4 (1 - l2) s _) (pc' := 146) d_Clo_followThere_143 rfl lm_Clo_99 mk_Clo_onStage mv_Clo_onStage ⟨rfl, rfl⟩ ⟨by decide, by decide⟩ (HX_26 _ _) rfl rfl rfl rfl ⟨Nat.le_refl _, Nat.le_refl _⟩ rfl (fun v1 s1 => ?_)
    refine G.iload_n (pc' := 147) d_Clo_followThere_146 rfl rfl ?_
    refine G.callSi (As := [vi v1, vi l3]) (n := 2) (st := []) (t_Clo_isBy v1 l3 s1 _) (pc' := 150) d_Clo_followThere_147 rfl lm_Clo_103 mk_Clo_isBy sx_Clo_isBy ⟨rfl, rfl⟩ ⟨by decide, by decide⟩ rfl rfl rfl ⟨Nat.le_refl _, Nat.le_refl _⟩ rfl (fun v2 s2 => ?_)
    refine G.if_eq (pc' := 153) (tgt := 157) d_Clo_followThere_150 rfl (by decide) ?_ ?_
    · exact t_Clo_followThere_26_157 rec67 l1 l2 l3 l4 t0 hrec67 s2
    · refine G.iconst (v := 1) (pc' := 154) d_Clo_followThere_153 rfl kI_1 ?_
      refine G.goto (tgt := 158) d_Clo_followThere_154 (by decide) ?_
      exact t_Clo_followThere_26_158 rec67 l1 l2 l3 l4 t0 1 hrec67 s2
  · exact t_Clo_followThere_26_157 rec67 l1 l2 l3 l4 t0 hrec67 s
theorem t_Clo_followThere_26_119 {R : List AC} (rec67 : Int32 → Sg → Ro) (l1 l2 l3 l4 : Int32) (hrec67 : ∀ (l4 : Int32) (s : Sg), Gd q_Clo_followThere none 67 [some (vr 26), some (vi l1), some (vi l2), some (vi l3), some (vi l4), none, none] [] s R 0 0 (rec67 l4 s)) (s : Sg) : Gd q_Clo_followThere none 119 [some (vr 26), some (vi l1), some (vi l2), some (vi l3), some (vi l4), none, none] [] s R 0 0 (f_Clo_followThere_119 26 rec67 l1 l2 l3 l4 s) := by
  unfold f_Clo_followThere_119
  refine G.iconst (v := 0) (pc' := 120) d_Clo_followThere_119 rfl kI_0 ?_
  exact t_Clo_followThere_26_120 rec67 l1 l2 l3 l4 0 hrec67 s
theorem t_Clo_followThere_26_67 {R : List AC}  (l1 l2 l3 : Int32) : ∀ (l4 : Int32) (s : Sg), Gd q_Clo_followThere none 67 [some (vr 26), some (vi l1), some (vi l2), some (vi l3), some (vi l4), none, none] [] s R 0 0 (f_Clo_followThere_67 26 l1 l2 l3 l4 s) := by
  intro l4 s
  unfold f_Clo_followThere_67
  refine G.loop1 (rf := fun l4 => [some (vr 26), some (vi l1), some (vi l2), some (vi l3), some (vi l4), none, none]) ?_ 4096 l4 s
  intro rec67 hrec67 l4 s
  refine G.iload (pc' := 69) d_Clo_followThere_67 rfl rfl ?_
  refine G.aload_n (pc' := 70) d_Clo_followThere_69 rfl rfl ?_
  refine G.get (pc' := 73) d_Clo_followThere_70 rfl fg_Clo_22 (HX_26 _ _) rfl ?_
  refine G.get (pc' := 76) d_Clo_followThere_73 rfl fg_Clo_74 (HX_21 _ _) rfl ?_
  refine G.icmp_ge (pc' := 79) (tgt := 186) d_Clo_followThere_76 rfl (by decide) ?_ ?_
  · exact G.vret d_Clo_followThere_186 rfl ⟨Nat.le_refl _, Nat.le_refl _⟩
  · refine G.aload_n (pc' := 80) d_Clo_followThere_79 rfl rfl ?_
    refine G.get (pc' := 83) d_Clo_followThere_80 rfl fg_Clo_22 (HX_26 _ _) rfl ?_
    refine G.get (pc' := 86) d_Clo_followThere_83 rfl fg_Clo_77 (HX_21 _ _) rfl ?_
    refine G.get (pc' := 89) d_Clo_followThere_86 rfl fg_Clo_81 (HX_3 _ _) rfl ?_
    refine G.iload (pc' := 91) d_Clo_followThere_89 rfl rfl ?_
    refine G.iald (pc' := 92) d_Clo_followThere_91 rfl (HX_4 _ _) ?_
    refine G.iload_n (pc' := 93) d_Clo_followThere_92 rfl rfl ?_
    refine G.icmp_eq (pc' := 96) (tgt := 99) d_Clo_followThere_93 rfl (by decide) ?_ ?_
    · refine G.iload_n (pc' := 100) d_Clo_followThere_99 rfl rfl ?_
      refine G.if_ne (pc' := 103) (tgt := 119) d_Clo_followThere_100 rfl (by decide) ?_ ?_
      · refine G.aload_n (pc' := 104) d_Clo_followThere_103 rfl rfl ?_
        refine G.get (pc' := 107) d_Clo_followThere_104 rfl fg_Clo_22 (HX_26 _ _) rfl ?_
        refine G.iload (pc' := 109) d_Clo_followThere_107 rfl rfl ?_
        refine G.callVi (As := [vi l4]) (n := 1) (i := 21) (ci := 5) (st := []) (t_Snap_isDefaultOfRoot l4 s _) (pc' := 112) d_Clo_followThere_109 rfl lm_Clo_86 mk_Snap_isDefaultOfRoot mv_Snap_isDefaultOfRoot ⟨rfl, rfl⟩ ⟨by decide, by decide⟩ (HX_21 _ _) rfl rfl rfl rfl ⟨Nat.le_refl _, Nat.le_refl _⟩ rfl (fun v1 s1 => ?_)
        refine G.if_eq (pc' := 115) (tgt := 119) d_Clo_followThere_112 rfl (by decide) ?_ ?_
        · exact t_Clo_followThere_26_119 rec67 l1 l2 l3 l4 hrec67 s1
        · refine G.iconst (v := 1) (pc' := 116) d_Clo_followThere_115 rfl kI_1 ?_
          refine G.goto (tgt := 120) d_Clo_followThere_116 (by decide) ?_
          exact t_Clo_followThere_26_120 rec67 l1 l2 l3 l4 1 hrec67 s1
      · exact t_Clo_followThere_26_119 rec67 l1 l2 l3 l4 hrec67 s
    · refine G.goto (tgt := 180) d_Clo_followThere_96 (by decide) ?_
      refine G.iinc (w := 1) (v := l4 + 1) (ρ' := [some (vr 26), some (vi l1), some (vi l2), some (vi l3), some (vi (l4 + 1)), none, none]) (pc' := 183) d_Clo_followThere_180 rfl rfl (by decide) kI_1 rfl rfl ?_
      refine G.goto (tgt := 67) d_Clo_followThere_183 (by decide) ?_
      exact hrec67 (l4 + 1) s
theorem t_Clo_followThere_26_3 {R : List AC}  (l1 l2 l3 : Int32) : ∀ (l4 : Int32) (s : Sg), Gd q_Clo_followThere none 3 [some (vr 26), some (vi l1), some (vi l2), some (vi l3), some (vi l4), none, none] [] s R 0 0 (f_Clo_followThere_3 26 l1 l2 l3 l4 s) := by
  intro l4 s
  unfold f_Clo_followThere_3
  refine G.loop1 (rf := fun l4 => [some (vr 26), some (vi l1), some (vi l2), some (vi l3), some (vi l4), none, none]) ?_ 4096 l4 s
  intro rec3 hrec3 l4 s
  refine G.iload (pc' := 5) d_Clo_followThere_3 rfl rfl ?_
  refine G.aload_n (pc' := 6) d_Clo_followThere_5 rfl rfl ?_
  refine G.get (pc' := 9) d_Clo_followThere_6 rfl fg_Clo_22 (HX_26 _ _) rfl ?_
  refine G.get (pc' := 12) d_Clo_followThere_9 rfl fg_Clo_55 (HX_21 _ _) rfl ?_
  refine G.icmp_ge (pc' := 15) (tgt := 64) d_Clo_followThere_12 rfl (by decide) ?_ ?_
  · refine G.iconst (v := 0) (pc' := 65) d_Clo_followThere_64 rfl kI_0 ?_
    refine G.istore (ρ' := [some (vr 26), some (vi l1), some (vi l2), some (vi l3), some (vi 0), none, none]) (pc' := 67) d_Clo_followThere_65 rfl (by decide) rfl ?_
    exact t_Clo_followThere_26_67 l1 l2 l3 0 s
  · refine G.aload_n (pc' := 16) d_Clo_followThere_15 rfl rfl ?_
    refine G.get (pc' := 19) d_Clo_followThere_16 rfl fg_Clo_22 (HX_26 _ _) rfl ?_
    refine G.get (pc' := 22) d_Clo_followThere_19 rfl fg_Clo_58 (HX_21 _ _) rfl ?_
    refine G.get (pc' := 25) d_Clo_followThere_22 rfl fg_Clo_62 (HX_8 _ _) rfl ?_
    refine G.iload (pc' := 27) d_Clo_followThere_25 rfl rfl ?_
    refine G.iald (pc' := 28) d_Clo_followThere_27 rfl (HX_9 _ _) ?_
    refine G.iload_n (pc' := 29) d_Clo_followThere_28 rfl rfl ?_
    refine G.icmp_ne (pc' := 32) (tgt := 58) d_Clo_followThere_29 rfl (by decide) ?_ ?_
    · refine G.aload_n (pc' := 33) d_Clo_followThere_32 rfl rfl ?_
      refine G.get (pc' := 36) d_Clo_followThere_33 rfl fg_Clo_22 (HX_26 _ _) rfl ?_
      refine G.get (pc' := 39) d_Clo_followThere_36 rfl fg_Clo_58 (HX_21 _ _) rfl ?_
      refine G.get (pc' := 42) d_Clo_followThere_39 rfl fg_Clo_67 (HX_8 _ _) rfl ?_
      refine G.iload (pc' := 44) d_Clo_followThere_42 rfl rfl ?_
      refine G.zald (pc' := 45) d_Clo_followThere_44 rfl (HX_15 _ _) ?_
      refine G.if_ne (pc' := 48) (tgt := 58) d_Clo_followThere_45 rfl (by decide) ?_ ?_
      · refine G.aload_n (pc' := 49) d_Clo_followThere_48 rfl rfl ?_
        refine G.iload (pc' := 51) d_Clo_followThere_49 rfl rfl ?_
        refine G.iload_n (pc' := 52) d_Clo_followThere_51 rfl rfl ?_
        refine G.iload_n (pc' := 53) d_Clo_followThere_52 rfl rfl ?_
        refine G.iconst (v := 1) (pc' := 54) d_Clo_followThere_53 rfl kI_1 ?_
        refine G.iadd (pc' := 55) d_Clo_followThere_54 rfl ?_
        refine G.callVv (As := [vi l4, vi l2, vi (l3 + 1)]) (n := 3) (i := 26) (ci := 6) (st := []) (t_Clo_bringLive_26 l4 l2 (l3 + 1) s _) (pc' := 58) d_Clo_followThere_55 rfl lm_Clo_71 mk_Clo_bringLive mv_Clo_bringLive ⟨rfl, rfl⟩ ⟨by decide, by decide⟩ (HX_26 _ _) rfl rfl rfl rfl ⟨Nat.le_refl _, Nat.le_refl _⟩ rfl (fun v1 s1 => ?_)
        refine G.iinc (w := 1) (v := l4 + 1) (ρ' := [some (vr 26), some (vi l1), some (vi l2), some (vi l3), some (vi (l4 + 1)), none, none]) (pc' := 61) d_Clo_followThere_58 rfl rfl (by decide) kI_1 rfl rfl ?_
        refine G.goto (tgt := 3) d_Clo_followThere_61 (by decide) ?_
        exact hrec3 (l4 + 1) s1
      · refine G.iinc (w := 1) (v := l4 + 1) (ρ' := [some (vr 26), some (vi l1), some (vi l2), some (vi l3), some (vi (l4 + 1)), none, none]) (pc' := 61) d_Clo_followThere_58 rfl rfl (by decide) kI_1 rfl rfl ?_
        refine G.goto (tgt := 3) d_Clo_followThere_61 (by decide) ?_
        exact hrec3 (l4 + 1) s
    · refine G.iinc (w := 1) (v := l4 + 1) (ρ' := [some (vr 26), some (vi l1), some (vi l2), some (vi l3), some (vi (l4 + 1)), none, none]) (pc' := 61) d_Clo_followThere_58 rfl rfl (by decide) kI_1 rfl rfl ?_
      refine G.goto (tgt := 3) d_Clo_followThere_61 (by decide) ?_
      exact hrec3 (l4 + 1) s
theorem t_Clo_followThere_26 (l1 l2 l3 : Int32) (s : Sg) (R : List AC) : Ct q_Clo_followThere [vr 26, vi l1, vi l2, vi l3] s R (f_Clo_followThere 26 l1 l2 l3 s) := by
  refine Ct.of (by decide) rfl (ρ := [some (vr 26), some (vi l1), some (vi l2), some (vi l3), none, none, none]) rfl ?_
  unfold f_Clo_followThere
  refine G.iconst (v := 0) (pc' := 1) d_Clo_followThere_0 rfl kI_0 ?_
  refine G.istore (ρ' := [some (vr 26), some (vi l1), some (vi l2), some (vi l3), some (vi 0), none, none]) (pc' := 3) d_Clo_followThere_1 rfl (by decide) rfl ?_
  exact t_Clo_followThere_26_3 l1 l2 l3 0 s
theorem t_Clo_followLive_23_96 {R : List AC}  (l1 l2 l3 l4 : Int32) : ∀ (l5 : Int32) (s : Sg), Gd q_Clo_followLive none 96 [some (vr 23), some (vi l1), some (vi l2), some (vi l3), some (vi l4), some (vi l5)] [] s R 0 0 (f_Clo_followLive_96 23 l1 l2 l3 l4 l5 s) := by
  intro l5 s
  unfold f_Clo_followLive_96
  refine G.loop1 (rf := fun l5 => [some (vr 23), some (vi l1), some (vi l2), some (vi l3), some (vi l4), some (vi l5)]) ?_ 4096 l5 s
  intro rec96 hrec96 l5 s
  refine G.iload (pc' := 98) d_Clo_followLive_96 rfl rfl ?_
  refine G.aload_n (pc' := 99) d_Clo_followLive_98 rfl rfl ?_
  refine G.get (pc' := 102) d_Clo_followLive_99 rfl fg_Clo_22 (HX_23 _ _) rfl ?_
  refine G.get (pc' := 105) d_Clo_followLive_102 rfl fg_Clo_121 (HX_21 _ _) rfl ?_
  refine G.icmp_ge (pc' := 108) (tgt := 195) d_Clo_followLive_105 rfl (by decide) ?_ ?_
  · exact G.vret d_Clo_followLive_195 rfl ⟨Nat.le_refl _, Nat.le_refl _⟩
  · refine G.aload_n (pc' := 109) d_Clo_followLive_108 rfl rfl ?_
    refine G.get (pc' := 112) d_Clo_followLive_109 rfl fg_Clo_22 (HX_23 _ _) rfl ?_
    refine G.get (pc' := 115) d_Clo_followLive_112 rfl fg_Clo_124 (HX_21 _ _) rfl ?_
    refine G.get (pc' := 118) d_Clo_followLive_115 rfl fg_Clo_128 (HX_16 _ _) rfl ?_
    refine G.iload (pc' := 120) d_Clo_followLive_118 rfl rfl ?_
    refine G.iald (pc' := 121) d_Clo_followLive_120 rfl (HX_18 _ _) ?_
    refine G.iconst (v := 3) (pc' := 122) d_Clo_followLive_121 rfl kI_3 ?_
    refine G.icmp_ne (pc' := 125) (tgt := 189) d_Clo_followLive_122 rfl (by decide) ?_ ?_
    · refine G.aload_n (pc' := 126) d_Clo_followLive_125 rfl rfl ?_
      refine G.get (pc' := 129) d_Clo_followLive_126 rfl fg_Clo_22 (HX_23 _ _) rfl ?_
      refine G.get (pc' := 132) d_Clo_followLive_129 rfl fg_Clo_124 (HX_21 _ _) rfl ?_
      refine G.get (pc' := 135) d_Clo_followLive_132 rfl fg_Clo_133 (HX_16 _ _) rfl ?_
      refine G.iload (pc' := 137) d_Clo_followLive_135 rfl rfl ?_
      refine G.iald (pc' := 138) d_Clo_followLive_137 rfl (HX_19 _ _) ?_
      refine G.iload_n (pc' := 139) d_Clo_followLive_138 rfl rfl ?_
      refine G.icmp_ne (pc' := 142) (tgt := 189) d_Clo_followLive_139 rfl (by decide) ?_ ?_
      · refine G.aload_n (pc' := 143) d_Clo_followLive_142 rfl rfl ?_
        refine G.aload_n (pc' := 144) d_Clo_followLive_143 rfl rfl ?_
        refine G.get (pc' := 147) d_Clo_followLive_144 rfl fg_Clo_22 (HX_23 _ _) rfl ?_
        refine G.get (pc' := 150) d_Clo_followLive_147 rfl fg_Clo_124 (HX_21 _ _) rfl ?_
        refine G.get (pc' := 153) d_Clo_followLive_150 rfl fg_Clo_136 (HX_16 _ _) rfl ?_
        refine G.iload (pc' := 155) d_Clo_followLive_153 rfl rfl ?_
        refine G.iald (pc' := 156) d_Clo_followLive_155 rfl (HX_17 _ _) ?_
        refine G.iload_n (pc' := 157) d_Clo_followLive_156 rfl rfl ?_
        refine G.callVi (As := [vi (s 17 (ix l5)), vi l2]) (n := 2) (i := 23) (ci := 6) (st := []) (t_Clo_onStage_23 (s 17 (ix l5)) l2 s _) (pc' := 160) d_Clo_followLive_157 rfl lm_Clo_99 mk_Clo_onStage mv_Clo_onStage ⟨rfl, rfl⟩ ⟨by decide, by decide⟩ (HX_23 _ _) rfl rfl rfl rfl ⟨Nat.le_refl _, Nat.le_refl _⟩ rfl (fun v1 s1 => ?_)
        refine G.iload_n (pc' := 161) d_Clo_followLive_160 rfl rfl ?_
        refine G.callSi (As := [vi v1, vi l3]) (n := 2) (st := []) (t_Clo_isBy v1 l3 s1 _) (pc' := 164) d_Clo_followLive_161 rfl lm_Clo_103 mk_Clo_isBy sx_Clo_isBy ⟨rfl, rfl⟩ ⟨by decide, by decide⟩ rfl rfl rfl ⟨Nat.le_refl _, Nat.le_refl _⟩ rfl (fun v2 s2 => ?_)
        refine G.if_eq (pc' := 167) (tgt := 189) d_Clo_followLive_164 rfl (by decide) ?_ ?_
        · refine G.iinc (w := 1) (v := l5 + 1) (ρ' := [some (vr 23), some (vi l1), some (vi l2), some (vi l3), some (vi l4), some (vi (l5 + 1))]) (pc' := 192) d_Clo_followLive_189 rfl rfl (by decide) kI_1 rfl rfl ?_
          refine G.goto (tgt := 96) d_Clo_followLive_192 (by decide) ?_
          exact hrec96 (l5 + 1) s2
        · refine G.aload_n (pc' := 168) d_Clo_followLive_167 rfl rfl ?_
          refine G.aload_n (pc' := 169) d_Clo_followLive_168 rfl rfl ?_
          refine G.get (pc' := 172) d_Clo_followLive_169 rfl fg_Clo_22 (HX_23 _ _) rfl ?_
          refine G.get (pc' := 175) d_Clo_followLive_172 rfl fg_Clo_124 (HX_21 _ _) rfl ?_
          refine G.get (pc' := 178) d_Clo_followLive_175 rfl fg_Clo_139 (HX_16 _ _) rfl ?_
          refine G.iload (pc' := 180) d_Clo_followLive_178 rfl rfl ?_
          refine G.iald (pc' := 181) d_Clo_followLive_180 rfl (HX_20 _ _) ?_
          refine G.iload (pc' := 183) d_Clo_followLive_181 rfl rfl ?_
          refine G.iload_n (pc' := 184) d_Clo_followLive_183 rfl rfl ?_
          refine G.iconst (v := 1) (pc' := 185) d_Clo_followLive_184 rfl kI_1 ?_
          refine G.iadd (pc' := 186) d_Clo_followLive_185 rfl ?_
          refine G.callVv (As := [vi (s2 20 (ix l5)), vi l4, vi (l3 + 1)]) (n := 3) (i := 23) (ci := 6) (st := []) (t_Clo_bringOn_23 (s2 20 (ix l5)) l4 (l3 + 1) s2 _) (pc' := 189) d_Clo_followLive_186 rfl lm_Clo_106 mk_Clo_bringOn mv_Clo_bringOn ⟨rfl, rfl⟩ ⟨by decide, by decide⟩ (HX_23 _ _) rfl rfl rfl rfl ⟨Nat.le_refl _, Nat.le_refl _⟩ rfl (fun v3 s3 => ?_)
          refine G.iinc (w := 1) (v := l5 + 1) (ρ' := [some (vr 23), some (vi l1), some (vi l2), some (vi l3), some (vi l4), some (vi (l5 + 1))]) (pc' := 192) d_Clo_followLive_189 rfl rfl (by decide) kI_1 rfl rfl ?_
          refine G.goto (tgt := 96) d_Clo_followLive_192 (by decide) ?_
          exact hrec96 (l5 + 1) s3
      · refine G.iinc (w := 1) (v := l5 + 1) (ρ' := [some (vr 23), some (vi l1), some (vi l2), some (vi l3), some (vi l4), some (vi (l5 + 1))]) (pc' := 192) d_Clo_followLive_189 rfl rfl (by decide) kI_1 rfl rfl ?_
        refine G.goto (tgt := 96) d_Clo_followLive_192 (by decide) ?_
        exact hrec96 (l5 + 1) s
    · refine G.iinc (w := 1) (v := l5 + 1) (ρ' := [some (vr 23), some (vi l1), some (vi l2), some (vi l3), some (vi l4), some (vi (l5 + 1))]) (pc' := 192) d_Clo_followLive_189 rfl rfl (by decide) kI_1 rfl rfl ?_
      refine G.goto (tgt := 96) d_Clo_followLive_192 (by decide) ?_
      exact hrec96 (l5 + 1) s
theorem t_Clo_followLive_23_76 {R : List AC} (rec38 : Int32 → Sg → Ro) (l1 l2 : Int32) (l3 l4 l5 : Int32) (hrec38 : ∀ (l5 : Int32) (s : Sg), Gd q_Clo_followLive none 38 [some (vr 23), some (vi l1), some (vi l2), some (vi l3), some (vi l4), some (vi l5)] [] s R 0 0 (rec38 l5 s)) (s : Sg) : Gd q_Clo_followLive none 76 [some (vr 23), some (vi l1), some (vi l2), some (vi l3), some (vi l4), some (vi l5)] [] s R 0 0 (f_Clo_followLive_76 23 rec38 l3 l4 l5 s) := by
  unfold f_Clo_followLive_76
  refine G.aload_n (pc' := 77) d_Clo_followLive_76 rfl rfl ?_
  refine G.iload (pc' := 79) d_Clo_followLive_77 rfl rfl ?_
  refine G.iload (pc' := 81) d_Clo_followLive_79 rfl rfl ?_
  refine G.iload_n (pc' := 82) d_Clo_followLive_81 rfl rfl ?_
  refine G.iconst (v := 1) (pc' := 83) d_Clo_followLive_82 rfl kI_1 ?_
  refine G.iadd (pc' := 84) d_Clo_followLive_83 rfl ?_
  refine G.callVv (As := [vi l5, vi l4, vi (l3 + 1)]) (n := 3) (i := 23) (ci := 6) (st := []) (t_Clo_bringOn_23 l5 l4 (l3 + 1) s _) (pc' := 87) d_Clo_followLive_84 rfl lm_Clo_106 mk_Clo_bringOn mv_Clo_bringOn ⟨rfl, rfl⟩ ⟨by decide, by decide⟩ (HX_23 _ _) rfl rfl rfl rfl ⟨Nat.le_refl _, Nat.le_refl _⟩ rfl (fun v1 s1 => ?_)
  refine G.iinc (w := 1) (v := l5 + 1) (ρ' := [some (vr 23), some (vi l1), some (vi l2), some (vi l3), some (vi l4), some (vi (l5 + 1))]) (pc' := 90) d_Clo_followLive_87 rfl rfl (by decide) kI_1 rfl rfl ?_
  refine G.goto (tgt := 38) d_Clo_followLive_90 (by decide) ?_
  exact hrec38 (l5 + 1) s1
theorem t_Clo_followLive_23_38 {R : List AC}  (l1 l2 l3 l4 : Int32) : ∀ (l5 : Int32) (s : Sg), Gd q_Clo_followLive none 38 [some (vr 23), some (vi l1), some (vi l2), some (vi l3), some (vi l4), some (vi l5)] [] s R 0 0 (f_Clo_followLive_38 23 l1 l2 l3 l4 l5 s) := by
  intro l5 s
  unfold f_Clo_followLive_38
  refine G.loop1 (rf := fun l5 => [some (vr 23), some (vi l1), some (vi l2), some (vi l3), some (vi l4), some (vi l5)]) ?_ 4096 l5 s
  intro rec38 hrec38 l5 s
  refine G.iload (pc' := 40) d_Clo_followLive_38 rfl rfl ?_
  refine G.aload_n (pc' := 41) d_Clo_followLive_40 rfl rfl ?_
  refine G.get (pc' := 44) d_Clo_followLive_41 rfl fg_Clo_22 (HX_23 _ _) rfl ?_
  refine G.get (pc' := 47) d_Clo_followLive_44 rfl fg_Clo_74 (HX_21 _ _) rfl ?_
  refine G.icmp_ge (pc' := 50) (tgt := 93) d_Clo_followLive_47 rfl (by decide) ?_ ?_
  · refine G.iconst (v := 0) (pc' := 94) d_Clo_followLive_93 rfl kI_0 ?_
    refine G.istore (ρ' := [some (vr 23), some (vi l1), some (vi l2), some (vi l3), some (vi l4), some (vi 0)]) (pc' := 96) d_Clo_followLive_94 rfl (by decide) rfl ?_
    exact t_Clo_followLive_23_96 l1 l2 l3 l4 0 s
  · refine G.aload_n (pc' := 51) d_Clo_followLive_50 rfl rfl ?_
    refine G.get (pc' := 54) d_Clo_followLive_51 rfl fg_Clo_22 (HX_23 _ _) rfl ?_
    refine G.iload_n (pc' := 55) d_Clo_followLive_54 rfl rfl ?_
    refine G.iload (pc' := 57) d_Clo_followLive_55 rfl rfl ?_
    refine G.callVi (As := [vi l1, vi l5]) (n := 2) (i := 21) (ci := 5) (st := []) (t_Snap_isAskedBy l1 l5 s _) (pc' := 60) d_Clo_followLive_57 rfl lm_Clo_115 mk_Snap_isAskedBy mv_Snap_isAskedBy ⟨rfl, rfl⟩ ⟨by decide, by decide⟩ (HX_21 _ _) rfl rfl rfl rfl ⟨Nat.le_refl _, Nat.le_refl _⟩ rfl (fun v1 s1 => ?_)
    refine G.if_ne (pc' := 63) (tgt := 76) d_Clo_followLive_60 rfl (by decide) ?_ ?_
    · refine G.aload_n (pc' := 64) d_Clo_followLive_63 rfl rfl ?_
      refine G.get (pc' := 67) d_Clo_followLive_64 rfl fg_Clo_22 (HX_23 _ _) rfl ?_
      refine G.iload_n (pc' := 68) d_Clo_followLive_67 rfl rfl ?_
      refine G.iload (pc' := 70) d_Clo_followLive_68 rfl rfl ?_
      refine G.callVi (As := [vi l1, vi l5]) (n := 2) (i := 21) (ci := 5) (st := []) (t_Snap_isDefaultFor l1 l5 s1 _) (pc' := 73) d_Clo_followLive_70 rfl lm_Clo_118 mk_Snap_isDefaultFor mv_Snap_isDefaultFor ⟨rfl, rfl⟩ ⟨by decide, by decide⟩ (HX_21 _ _) rfl rfl rfl rfl ⟨Nat.le_refl _, Nat.le_refl _⟩ rfl (fun v2 s2 => ?_)
      refine G.if_eq (pc' := 76) (tgt := 87) d_Clo_followLive_73 rfl (by decide) ?_ ?_
      · refine G.iinc (w := 1) (v := l5 + 1) (ρ' := [some (vr 23), some (vi l1), some (vi l2), some (vi l3), some (vi l4), some (vi (l5 + 1))]) (pc' := 90) d_Clo_followLive_87 rfl rfl (by decide) kI_1 rfl rfl ?_
        refine G.goto (tgt := 38) d_Clo_followLive_90 (by decide) ?_
        exact hrec38 (l5 + 1) s2
      · exact t_Clo_followLive_23_76 rec38 l1 l2 l3 l4 l5 hrec38 s2
    · exact t_Clo_followLive_23_76 rec38 l1 l2 l3 l4 l5 hrec38 s1
theorem t_Clo_followLive_23 (l1 l2 l3 : Int32) (s : Sg) (R : List AC) : Ct q_Clo_followLive [vr 23, vi l1, vi l2, vi l3] s R (f_Clo_followLive 23 l1 l2 l3 s) := by
  refine Ct.of (by decide) rfl (ρ := [some (vr 23), some (vi l1), some (vi l2), some (vi l3), none, none]) rfl ?_
  unfold f_Clo_followLive
  refine G.aload_n (pc' := 1) d_Clo_followLive_0 rfl rfl ?_
  refine G.get (pc' := 4) d_Clo_followLive_1 rfl fg_Clo_22 (HX_23 _ _) rfl ?_
  refine G.get (pc' := 7) d_Clo_followLive_4 rfl fg_Clo_58 (HX_21 _ _) rfl ?_
  refine G.iload_n (pc' := 8) d_Clo_followLive_7 rfl rfl ?_
  refine G.iload_n (pc' := 9) d_Clo_followLive_8 rfl rfl ?_
  refine G.callVi (As := [vi l1, vi l2]) (n := 2) (i := 8) (ci := 3) (st := []) (t_Users_farSide l1 l2 s _) (pc' := 12) d_Clo_followLive_9 rfl lm_Clo_109 mk_Users_farSide mv_Users_farSide ⟨rfl, rfl⟩ ⟨by decide, by decide⟩ (HX_8 _ _) rfl rfl rfl rfl ⟨Nat.le_refl _, Nat.le_refl _⟩ rfl (fun v1 s1 => ?_)
  refine G.istore (ρ' := [some (vr 23), some (vi l1), some (vi l2), some (vi l3), some (vi v1), none]) (pc' := 14) d_Clo_followLive_12 rfl (by decide) rfl ?_
  refine G.aload_n (pc' := 15) d_Clo_followLive_14 rfl rfl ?_
  refine G.aload_n (pc' := 16) d_Clo_followLive_15 rfl rfl ?_
  refine G.get (pc' := 19) d_Clo_followLive_16 rfl fg_Clo_22 (HX_23 _ _) rfl ?_
  refine G.get (pc' := 22) d_Clo_followLive_19 rfl fg_Clo_58 (HX_21 _ _) rfl ?_
  refine G.get (pc' := 25) d_Clo_followLive_22 rfl fg_Clo_112 (HX_8 _ _) rfl ?_
  refine G.iload_n (pc' := 26) d_Clo_followLive_25 rfl rfl ?_
  refine G.iald (pc' := 27) d_Clo_followLive_26 rfl (HX_10 _ _) ?_
  refine G.iload (pc' := 29) d_Clo_followLive_27 rfl rfl ?_
  refine G.iload_n (pc' := 30) d_Clo_followLive_29 rfl rfl ?_
  refine G.iconst (v := 1) (pc' := 31) d_Clo_followLive_30 rfl kI_1 ?_
  refine G.iadd (pc' := 32) d_Clo_followLive_31 rfl ?_
  refine G.callVv (As := [vi (s1 10 (ix l1)), vi v1, vi (l3 + 1)]) (n := 3) (i := 23) (ci := 6) (st := []) (t_Clo_bringThere_23 (s1 10 (ix l1)) v1 (l3 + 1) s1 _) (pc' := 35) d_Clo_followLive_32 rfl lm_Clo_38 mk_Clo_bringThere mv_Clo_bringThere ⟨rfl, rfl⟩ ⟨by decide, by decide⟩ (HX_23 _ _) rfl rfl rfl rfl ⟨Nat.le_refl _, Nat.le_refl _⟩ rfl (fun v2 s2 => ?_)
  refine G.iconst (v := 0) (pc' := 36) d_Clo_followLive_35 rfl kI_0 ?_
  refine G.istore (ρ' := [some (vr 23), some (vi l1), some (vi l2), some (vi l3), some (vi v1), some (vi 0)]) (pc' := 38) d_Clo_followLive_36 rfl (by decide) rfl ?_
  exact t_Clo_followLive_23_38 l1 l2 l3 v1 0 s2
theorem t_Clo_followLive_26_96 {R : List AC}  (l1 l2 l3 l4 : Int32) : ∀ (l5 : Int32) (s : Sg), Gd q_Clo_followLive none 96 [some (vr 26), some (vi l1), some (vi l2), some (vi l3), some (vi l4), some (vi l5)] [] s R 0 0 (f_Clo_followLive_96 26 l1 l2 l3 l4 l5 s) := by
  intro l5 s
  unfold f_Clo_followLive_96
  refine G.loop1 (rf := fun l5 => [some (vr 26), some (vi l1), some (vi l2), some (vi l3), some (vi l4), some (vi l5)]) ?_ 4096 l5 s
  intro rec96 hrec96 l5 s
  refine G.iload (pc' := 98) d_Clo_followLive_96 rfl rfl ?_
  refine G.aload_n (pc' := 99) d_Clo_followLive_98 rfl rfl ?_
  refine G.get (pc' := 102) d_Clo_followLive_99 rfl fg_Clo_22 (HX_26 _ _) rfl ?_
  refine G.get (pc' := 105) d_Clo_followLive_102 rfl fg_Clo_121 (HX_21 _ _) rfl ?_
  refine G.icmp_ge (pc' := 108) (tgt := 195) d_Clo_followLive_105 rfl (by decide) ?_ ?_
  · exact G.vret d_Clo_followLive_195 rfl ⟨Nat.le_refl _, Nat.le_refl _⟩
  · refine G.aload_n (pc' := 109) d_Clo_followLive_108 rfl rfl ?_
    refine G.get (pc' := 112) d_Clo_followLive_109 rfl fg_Clo_22 (HX_26 _ _) rfl ?_
    refine G.get (pc' := 115) d_Clo_followLive_112 rfl fg_Clo_124 (HX_21 _ _) rfl ?_
    refine G.get (pc' := 118) d_Clo_followLive_115 rfl fg_Clo_128 (HX_16 _ _) rfl ?_
    refine G.iload (pc' := 120) d_Clo_followLive_118 rfl rfl ?_
    refine G.iald (pc' := 121) d_Clo_followLive_120 rfl (HX_18 _ _) ?_
    refine G.iconst (v := 3) (pc' := 122) d_Clo_followLive_121 rfl kI_3 ?_
    refine G.icmp_ne (pc' := 125) (tgt := 189) d_Clo_followLive_122 rfl (by decide) ?_ ?_
    · refine G.aload_n (pc' := 126) d_Clo_followLive_125 rfl rfl ?_
      refine G.get (pc' := 129) d_Clo_followLive_126 rfl fg_Clo_22 (HX_26 _ _) rfl ?_
      refine G.get (pc' := 132) d_Clo_followLive_129 rfl fg_Clo_124 (HX_21 _ _) rfl ?_
      refine G.get (pc' := 135) d_Clo_followLive_132 rfl fg_Clo_133 (HX_16 _ _) rfl ?_
      refine G.iload (pc' := 137) d_Clo_followLive_135 rfl rfl ?_
      refine G.iald (pc' := 138) d_Clo_followLive_137 rfl (HX_19 _ _) ?_
      refine G.iload_n (pc' := 139) d_Clo_followLive_138 rfl rfl ?_
      refine G.icmp_ne (pc' := 142) (tgt := 189) d_Clo_followLive_139 rfl (by decide) ?_ ?_
      · refine G.aload_n (pc' := 143) d_Clo_followLive_142 rfl rfl ?_
        refine G.aload_n (pc' := 144) d_Clo_followLive_143 rfl rfl ?_
        refine G.get (pc' := 147) d_Clo_followLive_144 rfl fg_Clo_22 (HX_26 _ _) rfl ?_
        refine G.get (pc' := 150) d_Clo_followLive_147 rfl fg_Clo_124 (HX_21 _ _) rfl ?_
        refine G.get (pc' := 153) d_Clo_followLive_150 rfl fg_Clo_136 (HX_16 _ _) rfl ?_
        refine G.iload (pc' := 155) d_Clo_followLive_153 rfl rfl ?_
        refine G.iald (pc' := 156) d_Clo_followLive_155 rfl (HX_17 _ _) ?_
        refine G.iload_n (pc' := 157) d_Clo_followLive_156 rfl rfl ?_
        refine G.callVi (As := [vi (s 17 (ix l5)), vi l2]) (n := 2) (i := 26) (ci := 6) (st := []) (t_Clo_onStage_26 (s 17 (ix l5)) l2 s _) (pc' := 160) d_Clo_followLive_157 rfl lm_Clo_99 mk_Clo_onStage mv_Clo_onStage ⟨rfl, rfl⟩ ⟨by decide, by decide⟩ (HX_26 _ _) rfl rfl rfl rfl ⟨Nat.le_refl _, Nat.le_refl _⟩ rfl (fun v1 s1 => ?_)
        refine G.iload_n (pc' := 161) d_Clo_followLive_160 rfl rfl ?_
        refine G.callSi (As := [vi v1, vi l3]) (n := 2) (st := []) (t_Clo_isBy v1 l3 s1 _) (pc' := 164) d_Clo_followLive_161 rfl lm_Clo_103 mk_Clo_isBy sx_Clo_isBy ⟨rfl, rfl⟩ ⟨by decide, by decide⟩ rfl rfl rfl ⟨Nat.le_refl _, Nat.le_refl _⟩ rfl (fun v2 s2 => ?_)
        refine G.if_eq (pc' := 167) (tgt := 189) d_Clo_followLive_164 rfl (by decide) ?_ ?_
        · refine G.iinc (w := 1) (v := l5 + 1) (ρ' := [some (vr 26), some (vi l1), some (vi l2), some (vi l3), some (vi l4), some (vi (l5 + 1))]) (pc' := 192) d_Clo_followLive_189 rfl rfl (by decide) kI_1 rfl rfl ?_
          refine G.goto (tgt := 96) d_Clo_followLive_192 (by decide) ?_
          exact hrec96 (l5 + 1) s2
        · refine G.aload_n (pc' := 168) d_Clo_followLive_167 rfl rfl ?_
          refine G.aload_n (pc' := 169) d_Clo_followLive_168 rfl rfl ?_
          refine G.get (pc' := 172) d_Clo_followLive_169 rfl fg_Clo_22 (HX_26 _ _) rfl ?_
          refine G.get (pc' := 175) d_Clo_followLive_172 rfl fg_Clo_124 (HX_21 _ _) rfl ?_
          refine G.get (pc' := 178) d_Clo_followLive_175 rfl fg_Clo_139 (HX_16 _ _) rfl ?_
          refine G.iload (pc' := 180) d_Clo_followLive_178 rfl rfl ?_
          refine G.iald (pc' := 181) d_Clo_followLive_180 rfl (HX_20 _ _) ?_
          refine G.iload (pc' := 183) d_Clo_followLive_181 rfl rfl ?_
          refine G.iload_n (pc' := 184) d_Clo_followLive_183 rfl rfl ?_
          refine G.iconst (v := 1) (pc' := 185) d_Clo_followLive_184 rfl kI_1 ?_
          refine G.iadd (pc' := 186) d_Clo_followLive_185 rfl ?_
          refine G.callVv (As := [vi (s2 20 (ix l5)), vi l4, vi (l3 + 1)]) (n := 3) (i := 26) (ci := 6) (st := []) (t_Clo_bringOn_26 (s2 20 (ix l5)) l4 (l3 + 1) s2 _) (pc' := 189) d_Clo_followLive_186 rfl lm_Clo_106 mk_Clo_bringOn mv_Clo_bringOn ⟨rfl, rfl⟩ ⟨by decide, by decide⟩ (HX_26 _ _) rfl rfl rfl rfl ⟨Nat.le_refl _, Nat.le_refl _⟩ rfl (fun v3 s3 => ?_)
          refine G.iinc (w := 1) (v := l5 + 1) (ρ' := [some (vr 26), some (vi l1), some (vi l2), some (vi l3), some (vi l4), some (vi (l5 + 1))]) (pc' := 192) d_Clo_followLive_189 rfl rfl (by decide) kI_1 rfl rfl ?_
          refine G.goto (tgt := 96) d_Clo_followLive_192 (by decide) ?_
          exact hrec96 (l5 + 1) s3
      · refine G.iinc (w := 1) (v := l5 + 1) (ρ' := [some (vr 26), some (vi l1), some (vi l2), some (vi l3), some (vi l4), some (vi (l5 + 1))]) (pc' := 192) d_Clo_followLive_189 rfl rfl (by decide) kI_1 rfl rfl ?_
        refine G.goto (tgt := 96) d_Clo_followLive_192 (by decide) ?_
        exact hrec96 (l5 + 1) s
    · refine G.iinc (w := 1) (v := l5 + 1) (ρ' := [some (vr 26), some (vi l1), some (vi l2), some (vi l3), some (vi l4), some (vi (l5 + 1))]) (pc' := 192) d_Clo_followLive_189 rfl rfl (by decide) kI_1 rfl rfl ?_
      refine G.goto (tgt := 96) d_Clo_followLive_192 (by decide) ?_
      exact hrec96 (l5 + 1) s
theorem t_Clo_followLive_26_76 {R : List AC} (rec38 : Int32 → Sg → Ro) (l1 l2 : Int32) (l3 l4 l5 : Int32) (hrec38 : ∀ (l5 : Int32) (s : Sg), Gd q_Clo_followLive none 38 [some (vr 26), some (vi l1), some (vi l2), some (vi l3), some (vi l4), some (vi l5)] [] s R 0 0 (rec38 l5 s)) (s : Sg) : Gd q_Clo_followLive none 76 [some (vr 26), some (vi l1), some (vi l2), some (vi l3), some (vi l4), some (vi l5)] [] s R 0 0 (f_Clo_followLive_76 26 rec38 l3 l4 l5 s) := by
  unfold f_Clo_followLive_76
  refine G.aload_n (pc' := 77) d_Clo_followLive_76 rfl rfl ?_
  refine G.iload (pc' := 79) d_Clo_followLive_77 rfl rfl ?_
  refine G.iload (pc' := 81) d_Clo_followLive_79 rfl rfl ?_
  refine G.iload_n (pc' := 82) d_Clo_followLive_81 rfl rfl ?_
  refine G.iconst (v := 1) (pc' := 83) d_Clo_followLive_82 rfl kI_1 ?_
  refine G.iadd (pc' := 84) d_Clo_followLive_83 rfl ?_
  refine G.callVv (As := [vi l5, vi l4, vi (l3 + 1)]) (n := 3) (i := 26) (ci := 6) (st := []) (t_Clo_bringOn_26 l5 l4 (l3 + 1) s _) (pc' := 87) d_Clo_followLive_84 rfl lm_Clo_106 mk_Clo_bringOn mv_Clo_bringOn ⟨rfl, rfl⟩ ⟨by decide, by decide⟩ (HX_26 _ _) rfl rfl rfl rfl ⟨Nat.le_refl _, Nat.le_refl _⟩ rfl (fun v1 s1 => ?_)
  refine G.iinc (w := 1) (v := l5 + 1) (ρ' := [some (vr 26), some (vi l1), some (vi l2), some (vi l3), some (vi l4), some (vi (l5 + 1))]) (pc' := 90) d_Clo_followLive_87 rfl rfl (by decide) kI_1 rfl rfl ?_
  refine G.goto (tgt := 38) d_Clo_followLive_90 (by decide) ?_
  exact hrec38 (l5 + 1) s1
theorem t_Clo_followLive_26_38 {R : List AC}  (l1 l2 l3 l4 : Int32) : ∀ (l5 : Int32) (s : Sg), Gd q_Clo_followLive none 38 [some (vr 26), some (vi l1), some (vi l2), some (vi l3), some (vi l4), some (vi l5)] [] s R 0 0 (f_Clo_followLive_38 26 l1 l2 l3 l4 l5 s) := by
  intro l5 s
  unfold f_Clo_followLive_38
  refine G.loop1 (rf := fun l5 => [some (vr 26), some (vi l1), some (vi l2), some (vi l3), some (vi l4), some (vi l5)]) ?_ 4096 l5 s
  intro rec38 hrec38 l5 s
  refine G.iload (pc' := 40) d_Clo_followLive_38 rfl rfl ?_
  refine G.aload_n (pc' := 41) d_Clo_followLive_40 rfl rfl ?_
  refine G.get (pc' := 44) d_Clo_followLive_41 rfl fg_Clo_22 (HX_26 _ _) rfl ?_
  refine G.get (pc' := 47) d_Clo_followLive_44 rfl fg_Clo_74 (HX_21 _ _) rfl ?_
  refine G.icmp_ge (pc' := 50) (tgt := 93) d_Clo_followLive_47 rfl (by decide) ?_ ?_
  · refine G.iconst (v := 0) (pc' := 94) d_Clo_followLive_93 rfl kI_0 ?_
    refine G.istore (ρ' := [some (vr 26), some (vi l1), some (vi l2), some (vi l3), some (vi l4), some (vi 0)]) (pc' := 96) d_Clo_followLive_94 rfl (by decide) rfl ?_
    exact t_Clo_followLive_26_96 l1 l2 l3 l4 0 s
  · refine G.aload_n (pc' := 51) d_Clo_followLive_50 rfl rfl ?_
    refine G.get (pc' := 54) d_Clo_followLive_51 rfl fg_Clo_22 (HX_26 _ _) rfl ?_
    refine G.iload_n (pc' := 55) d_Clo_followLive_54 rfl rfl ?_
    refine G.iload (pc' := 57) d_Clo_followLive_55 rfl rfl ?_
    refine G.callVi (As := [vi l1, vi l5]) (n := 2) (i := 21) (ci := 5) (st := []) (t_Snap_isAskedBy l1 l5 s _) (pc' := 60) d_Clo_followLive_57 rfl lm_Clo_115 mk_Snap_isAskedBy mv_Snap_isAskedBy ⟨rfl, rfl⟩ ⟨by decide, by decide⟩ (HX_21 _ _) rfl rfl rfl rfl ⟨Nat.le_refl _, Nat.le_refl _⟩ rfl (fun v1 s1 => ?_)
    refine G.if_ne (pc' := 63) (tgt := 76) d_Clo_followLive_60 rfl (by decide) ?_ ?_
    · refine G.aload_n (pc' := 64) d_Clo_followLive_63 rfl rfl ?_
      refine G.get (pc' := 67) d_Clo_followLive_64 rfl fg_Clo_22 (HX_26 _ _) rfl ?_
      refine G.iload_n (pc' := 68) d_Clo_followLive_67 rfl rfl ?_
      refine G.iload (pc' := 70) d_Clo_followLive_68 rfl rfl ?_
      refine G.callVi (As := [vi l1, vi l5]) (n := 2) (i := 21) (ci := 5) (st := []) (t_Snap_isDefaultFor l1 l5 s1 _) (pc' := 73) d_Clo_followLive_70 rfl lm_Clo_118 mk_Snap_isDefaultFor mv_Snap_isDefaultFor ⟨rfl, rfl⟩ ⟨by decide, by decide⟩ (HX_21 _ _) rfl rfl rfl rfl ⟨Nat.le_refl _, Nat.le_refl _⟩ rfl (fun v2 s2 => ?_)
      refine G.if_eq (pc' := 76) (tgt := 87) d_Clo_followLive_73 rfl (by decide) ?_ ?_
      · refine G.iinc (w := 1) (v := l5 + 1) (ρ' := [some (vr 26), some (vi l1), some (vi l2), some (vi l3), some (vi l4), some (vi (l5 + 1))]) (pc' := 90) d_Clo_followLive_87 rfl rfl (by decide) kI_1 rfl rfl ?_
        refine G.goto (tgt := 38) d_Clo_followLive_90 (by decide) ?_
        exact hrec38 (l5 + 1) s2
      · exact t_Clo_followLive_26_76 rec38 l1 l2 l3 l4 l5 hrec38 s2
    · exact t_Clo_followLive_26_76 rec38 l1 l2 l3 l4 l5 hrec38 s1
theorem t_Clo_followLive_26 (l1 l2 l3 : Int32) (s : Sg) (R : List AC) : Ct q_Clo_followLive [vr 26, vi l1, vi l2, vi l3] s R (f_Clo_followLive 26 l1 l2 l3 s) := by
  refine Ct.of (by decide) rfl (ρ := [some (vr 26), some (vi l1), some (vi l2), some (vi l3), none, none]) rfl ?_
  unfold f_Clo_followLive
  refine G.aload_n (pc' := 1) d_Clo_followLive_0 rfl rfl ?_
  refine G.get (pc' := 4) d_Clo_followLive_1 rfl fg_Clo_22 (HX_26 _ _) rfl ?_
  refine G.get (pc' := 7) d_Clo_followLive_4 rfl fg_Clo_58 (HX_21 _ _) rfl ?_
  refine G.iload_n (pc' := 8) d_Clo_followLive_7 rfl rfl ?_
  refine G.iload_n (pc' := 9) d_Clo_followLive_8 rfl rfl ?_
  refine G.callVi (As := [vi l1, vi l2]) (n := 2) (i := 8) (ci := 3) (st := []) (t_Users_farSide l1 l2 s _) (pc' := 12) d_Clo_followLive_9 rfl lm_Clo_109 mk_Users_farSide mv_Users_farSide ⟨rfl, rfl⟩ ⟨by decide, by decide⟩ (HX_8 _ _) rfl rfl rfl rfl ⟨Nat.le_refl _, Nat.le_refl _⟩ rfl (fun v1 s1 => ?_)
  refine G.istore (ρ' := [some (vr 26), some (vi l1), some (vi l2), some (vi l3), some (vi v1), none]) (pc' := 14) d_Clo_followLive_12 rfl (by decide) rfl ?_
  refine G.aload_n (pc' := 15) d_Clo_followLive_14 rfl rfl ?_
  refine G.aload_n (pc' := 16) d_Clo_followLive_15 rfl rfl ?_
  refine G.get (pc' := 19) d_Clo_followLive_16 rfl fg_Clo_22 (HX_26 _ _) rfl ?_
  refine G.get (pc' := 22) d_Clo_followLive_19 rfl fg_Clo_58 (HX_21 _ _) rfl ?_
  refine G.get (pc' := 25) d_Clo_followLive_22 rfl fg_Clo_112 (HX_8 _ _) rfl ?_
  refine G.iload_n (pc' := 26) d_Clo_followLive_25 rfl rfl ?_
  refine G.iald (pc' := 27) d_Clo_followLive_26 rfl (HX_10 _ _) ?_
  refine G.iload (pc' := 29) d_Clo_followLive_27 rfl rfl ?_
  refine G.iload_n (pc' := 30) d_Clo_followLive_29 rfl rfl ?_
  refine G.iconst (v := 1) (pc' := 31) d_Clo_followLive_30 rfl kI_1 ?_
  refine G.iadd (pc' := 32) d_Clo_followLive_31 rfl ?_
  refine G.callVv (As := [vi (s1 10 (ix l1)), vi v1, vi (l3 + 1)]) (n := 3) (i := 26) (ci := 6) (st := []) (t_Clo_bringThere_26 (s1 10 (ix l1)) v1 (l3 + 1) s1 _) (pc' := 35) d_Clo_followLive_32 rfl lm_Clo_38 mk_Clo_bringThere mv_Clo_bringThere ⟨rfl, rfl⟩ ⟨by decide, by decide⟩ (HX_26 _ _) rfl rfl rfl rfl ⟨Nat.le_refl _, Nat.le_refl _⟩ rfl (fun v2 s2 => ?_)
  refine G.iconst (v := 0) (pc' := 36) d_Clo_followLive_35 rfl kI_0 ?_
  refine G.istore (ρ' := [some (vr 26), some (vi l1), some (vi l2), some (vi l3), some (vi v1), some (vi 0)]) (pc' := 38) d_Clo_followLive_36 rfl (by decide) rfl ?_
  exact t_Clo_followLive_26_38 l1 l2 l3 v1 0 s2
theorem t_Clo_thereStage_23 (l1 l2 : Int32) (s : Sg) (R : List AC) : Ct q_Clo_thereStage [vr 23, vi l1, vi l2] s R (f_Clo_thereStage 23 l1 l2 s) := by
  refine Ct.of (by decide) rfl (ρ := [some (vr 23), some (vi l1), some (vi l2)]) rfl ?_
  unfold f_Clo_thereStage
  refine G.aload_n (pc' := 1) d_Clo_thereStage_0 rfl rfl ?_
  refine G.get (pc' := 4) d_Clo_thereStage_1 rfl fg_Clo_9 (HX_23 _ _) rfl ?_
  refine G.iconst (v := 2) (pc' := 5) d_Clo_thereStage_4 rfl kI_2 ?_
  refine G.iload_n (pc' := 6) d_Clo_thereStage_5 rfl rfl ?_
  refine G.imul (pc' := 7) d_Clo_thereStage_6 rfl ?_
  refine G.iload_n (pc' := 8) d_Clo_thereStage_7 rfl rfl ?_
  refine G.iadd (pc' := 9) d_Clo_thereStage_8 rfl ?_
  refine G.iald (pc' := 10) d_Clo_thereStage_9 rfl (HX_24 _ _) ?_
  exact G.iret d_Clo_thereStage_10 rfl ⟨Nat.le_refl _, Nat.le_refl _⟩
theorem t_Clo_thereStage_26 (l1 l2 : Int32) (s : Sg) (R : List AC) : Ct q_Clo_thereStage [vr 26, vi l1, vi l2] s R (f_Clo_thereStage 26 l1 l2 s) := by
  refine Ct.of (by decide) rfl (ρ := [some (vr 26), some (vi l1), some (vi l2)]) rfl ?_
  unfold f_Clo_thereStage
  refine G.aload_n (pc' := 1) d_Clo_thereStage_0 rfl rfl ?_
  refine G.get (pc' := 4) d_Clo_thereStage_1 rfl fg_Clo_9 (HX_26 _ _) rfl ?_
  refine G.iconst (v := 2) (pc' := 5) d_Clo_thereStage_4 rfl kI_2 ?_
  refine G.iload_n (pc' := 6) d_Clo_thereStage_5 rfl rfl ?_
  refine G.imul (pc' := 7) d_Clo_thereStage_6 rfl ?_
  refine G.iload_n (pc' := 8) d_Clo_thereStage_7 rfl rfl ?_
  refine G.iadd (pc' := 9) d_Clo_thereStage_8 rfl ?_
  refine G.iald (pc' := 10) d_Clo_thereStage_9 rfl (HX_27 _ _) ?_
  exact G.iret d_Clo_thereStage_10 rfl ⟨Nat.le_refl _, Nat.le_refl _⟩
theorem t_Clo_liveStage_23 (l1 l2 : Int32) (s : Sg) (R : List AC) : Ct q_Clo_liveStage [vr 23, vi l1, vi l2] s R (f_Clo_liveStage 23 l1 l2 s) := by
  refine Ct.of (by decide) rfl (ρ := [some (vr 23), some (vi l1), some (vi l2)]) rfl ?_
  unfold f_Clo_liveStage
  refine G.aload_n (pc' := 1) d_Clo_liveStage_0 rfl rfl ?_
  refine G.get (pc' := 4) d_Clo_liveStage_1 rfl fg_Clo_9 (HX_23 _ _) rfl ?_
  refine G.bipush (v := 20) (pc' := 6) d_Clo_liveStage_4 rfl kB_20 ?_
  refine G.iconst (v := 2) (pc' := 7) d_Clo_liveStage_6 rfl kI_2 ?_
  refine G.iload_n (pc' := 8) d_Clo_liveStage_7 rfl rfl ?_
  refine G.imul (pc' := 9) d_Clo_liveStage_8 rfl ?_
  refine G.iadd (pc' := 10) d_Clo_liveStage_9 rfl ?_
  refine G.iload_n (pc' := 11) d_Clo_liveStage_10 rfl rfl ?_
  refine G.iadd (pc' := 12) d_Clo_liveStage_11 rfl ?_
  refine G.iald (pc' := 13) d_Clo_liveStage_12 rfl (HX_24 _ _) ?_
  exact G.iret d_Clo_liveStage_13 rfl ⟨Nat.le_refl _, Nat.le_refl _⟩
theorem t_Clo_liveStage_26 (l1 l2 : Int32) (s : Sg) (R : List AC) : Ct q_Clo_liveStage [vr 26, vi l1, vi l2] s R (f_Clo_liveStage 26 l1 l2 s) := by
  refine Ct.of (by decide) rfl (ρ := [some (vr 26), some (vi l1), some (vi l2)]) rfl ?_
  unfold f_Clo_liveStage
  refine G.aload_n (pc' := 1) d_Clo_liveStage_0 rfl rfl ?_
  refine G.get (pc' := 4) d_Clo_liveStage_1 rfl fg_Clo_9 (HX_26 _ _) rfl ?_
  refine G.bipush (v := 20) (pc' := 6) d_Clo_liveStage_4 rfl kB_20 ?_
  refine G.iconst (v := 2) (pc' := 7) d_Clo_liveStage_6 rfl kI_2 ?_
  refine G.iload_n (pc' := 8) d_Clo_liveStage_7 rfl rfl ?_
  refine G.imul (pc' := 9) d_Clo_liveStage_8 rfl ?_
  refine G.iadd (pc' := 10) d_Clo_liveStage_9 rfl ?_
  refine G.iload_n (pc' := 11) d_Clo_liveStage_10 rfl rfl ?_
  refine G.iadd (pc' := 12) d_Clo_liveStage_11 rfl ?_
  refine G.iald (pc' := 13) d_Clo_liveStage_12 rfl (HX_27 _ _) ?_
  exact G.iret d_Clo_liveStage_13 rfl ⟨Nat.le_refl _, Nat.le_refl _⟩
theorem t_Clo_followTurn_23_119 {R : List AC}  (l2 l3 l5 l6 : Int32) (s : Sg) : Gd q_Clo_followTurn none 119 [some (vr 23), none, some (vi l2), some (vi l3), none, some (vi l5), some (vi l6)] [] s R 0 0 (f_Clo_followTurn_119 23 l2 l3 l5 l6 s) := by
  unfold f_Clo_followTurn_119
  refine G.aload_n (pc' := 120) d_Clo_followTurn_119 rfl rfl ?_
  refine G.iload (pc' := 122) d_Clo_followTurn_120 rfl rfl ?_
  refine G.aload_n (pc' := 123) d_Clo_followTurn_122 rfl rfl ?_
  refine G.get (pc' := 126) d_Clo_followTurn_123 rfl fg_Clo_22 (HX_23 _ _) rfl ?_
  refine G.get (pc' := 129) d_Clo_followTurn_126 rfl fg_Clo_58 (HX_21 _ _) rfl ?_
  refine G.iload (pc' := 131) d_Clo_followTurn_129 rfl rfl ?_
  refine G.iload_n (pc' := 132) d_Clo_followTurn_131 rfl rfl ?_
  refine G.callVi (As := [vi l6, vi l2]) (n := 2) (i := 8) (ci := 3) (st := [vi l5, vr 23]) (t_Users_farSide l6 l2 s _) (pc' := 135) d_Clo_followTurn_132 rfl lm_Clo_109 mk_Users_farSide mv_Users_farSide ⟨rfl, rfl⟩ ⟨by decide, by decide⟩ (HX_8 _ _) rfl rfl rfl rfl ⟨Nat.le_refl _, Nat.le_refl _⟩ rfl (fun v1 s1 => ?_)
  refine G.iload_n (pc' := 136) d_Clo_followTurn_135 rfl rfl ?_
  refine G.iconst (v := 1) (pc' := 137) d_Clo_followTurn_136 rfl kI_1 ?_
  refine G.iadd (pc' := 138) d_Clo_followTurn_137 rfl ?_
  refine G.callVv (As := [vi l5, vi v1, vi (l3 + 1)]) (n := 3) (i := 23) (ci := 6) (st := []) (t_Clo_bringOn_23 l5 v1 (l3 + 1) s1 _) (pc' := 141) d_Clo_followTurn_138 rfl lm_Clo_106 mk_Clo_bringOn mv_Clo_bringOn ⟨rfl, rfl⟩ ⟨by decide, by decide⟩ (HX_23 _ _) rfl rfl rfl rfl ⟨Nat.le_refl _, Nat.le_refl _⟩ rfl (fun v2 s2 => ?_)
  exact G.vret d_Clo_followTurn_141 rfl ⟨Nat.le_refl _, Nat.le_refl _⟩
theorem t_Clo_followTurn_23_93 {R : List AC}  (l2 l3 l4 l5 l6 : Int32) (s : Sg) : Gd q_Clo_followTurn none 93 [some (vr 23), none, some (vi l2), some (vi l3), some (vi l4), some (vi l5), some (vi l6)] [] s R 0 0 (f_Clo_followTurn_93 23 l2 l3 l4 l5 l6 s) := by
  unfold f_Clo_followTurn_93
  refine G.iload (pc' := 95) d_Clo_followTurn_93 rfl rfl ?_
  refine G.iconst (v := 2) (pc' := 96) d_Clo_followTurn_95 rfl kI_2 ?_
  refine G.icmp_eq (pc' := 99) (tgt := 119) d_Clo_followTurn_96 rfl (by decide) ?_ ?_
  · refine G.mask [true, false, true, true, false, true, true] (ρ' := [some (vr 23), none, some (vi l2), some (vi l3), none, some (vi l5), some (vi l6)]) rfl ?_
    exact t_Clo_followTurn_23_119 l2 l3 l5 l6 s
  · refine G.iload (pc' := 101) d_Clo_followTurn_99 rfl rfl ?_
    refine G.iconst (v := 3) (pc' := 102) d_Clo_followTurn_101 rfl kI_3 ?_
    refine G.icmp_ne (pc' := 105) (tgt := 141) d_Clo_followTurn_102 rfl (by decide) ?_ ?_
    · refine G.aload_n (pc' := 106) d_Clo_followTurn_105 rfl rfl ?_
      refine G.iload (pc' := 108) d_Clo_followTurn_106 rfl rfl ?_
      refine G.iload_n (pc' := 109) d_Clo_followTurn_108 rfl rfl ?_
      refine G.callVi (As := [vi l6, vi l2]) (n := 2) (i := 23) (ci := 6) (st := []) (t_Clo_liveStage_23 l6 l2 s _) (pc' := 112) d_Clo_followTurn_109 rfl lm_Clo_151 mk_Clo_liveStage mv_Clo_liveStage ⟨rfl, rfl⟩ ⟨by decide, by decide⟩ (HX_23 _ _) rfl rfl rfl rfl ⟨Nat.le_refl _, Nat.le_refl _⟩ rfl (fun v1 s1 => ?_)
      refine G.iload_n (pc' := 113) d_Clo_followTurn_112 rfl rfl ?_
      refine G.callSi (As := [vi v1, vi l3]) (n := 2) (st := []) (t_Clo_isBy v1 l3 s1 _) (pc' := 116) d_Clo_followTurn_113 rfl lm_Clo_103 mk_Clo_isBy sx_Clo_isBy ⟨rfl, rfl⟩ ⟨by decide, by decide⟩ rfl rfl rfl ⟨Nat.le_refl _, Nat.le_refl _⟩ rfl (fun v2 s2 => ?_)
      refine G.if_eq (pc' := 119) (tgt := 141) d_Clo_followTurn_116 rfl (by decide) ?_ ?_
      · exact G.vret d_Clo_followTurn_141 rfl ⟨Nat.le_refl _, Nat.le_refl _⟩
      · refine G.mask [true, false, true, true, false, true, true] (ρ' := [some (vr 23), none, some (vi l2), some (vi l3), none, some (vi l5), some (vi l6)]) rfl ?_
        exact t_Clo_followTurn_23_119 l2 l3 l5 l6 s2
    · exact G.vret d_Clo_followTurn_141 rfl ⟨Nat.le_refl _, Nat.le_refl _⟩
theorem t_Clo_followTurn_23_83 {R : List AC}  (l2 l3 l4 l5 l6 : Int32) (s : Sg) : Gd q_Clo_followTurn none 83 [some (vr 23), none, some (vi l2), some (vi l3), some (vi l4), some (vi l5), some (vi l6)] [] s R 0 0 (f_Clo_followTurn_83 23 l2 l3 l4 l5 l6 s) := by
  unfold f_Clo_followTurn_83
  refine G.aload_n (pc' := 84) d_Clo_followTurn_83 rfl rfl ?_
  refine G.iload (pc' := 86) d_Clo_followTurn_84 rfl rfl ?_
  refine G.iload_n (pc' := 87) d_Clo_followTurn_86 rfl rfl ?_
  refine G.iload_n (pc' := 88) d_Clo_followTurn_87 rfl rfl ?_
  refine G.iconst (v := 1) (pc' := 89) d_Clo_followTurn_88 rfl kI_1 ?_
  refine G.iadd (pc' := 90) d_Clo_followTurn_89 rfl ?_
  refine G.callVv (As := [vi l6, vi l2, vi (l3 + 1)]) (n := 3) (i := 23) (ci := 6) (st := []) (t_Clo_bringLive_23 l6 l2 (l3 + 1) s _) (pc' := 93) d_Clo_followTurn_90 rfl lm_Clo_71 mk_Clo_bringLive mv_Clo_bringLive ⟨rfl, rfl⟩ ⟨by decide, by decide⟩ (HX_23 _ _) rfl rfl rfl rfl ⟨Nat.le_refl _, Nat.le_refl _⟩ rfl (fun v1 s1 => ?_)
  exact t_Clo_followTurn_23_93 l2 l3 l4 l5 l6 s1
theorem t_Clo_followTurn_23 (l1 l2 l3 : Int32) (s : Sg) (R : List AC) : Ct q_Clo_followTurn [vr 23, vi l1, vi l2, vi l3] s R (f_Clo_followTurn 23 l1 l2 l3 s) := by
  refine Ct.of (by decide) rfl (ρ := [some (vr 23), some (vi l1), some (vi l2), some (vi l3), none, none, none]) rfl ?_
  unfold f_Clo_followTurn
  refine G.aload_n (pc' := 1) d_Clo_followTurn_0 rfl rfl ?_
  refine G.get (pc' := 4) d_Clo_followTurn_1 rfl fg_Clo_22 (HX_23 _ _) rfl ?_
  refine G.get (pc' := 7) d_Clo_followTurn_4 rfl fg_Clo_124 (HX_21 _ _) rfl ?_
  refine G.get (pc' := 10) d_Clo_followTurn_7 rfl fg_Clo_128 (HX_16 _ _) rfl ?_
  refine G.iload_n (pc' := 11) d_Clo_followTurn_10 rfl rfl ?_
  refine G.iald (pc' := 12) d_Clo_followTurn_11 rfl (HX_18 _ _) ?_
  refine G.istore (ρ' := [some (vr 23), some (vi l1), some (vi l2), some (vi l3), some (vi (s 18 (ix l1))), none, none]) (pc' := 14) d_Clo_followTurn_12 rfl (by decide) rfl ?_
  refine G.aload_n (pc' := 15) d_Clo_followTurn_14 rfl rfl ?_
  refine G.get (pc' := 18) d_Clo_followTurn_15 rfl fg_Clo_22 (HX_23 _ _) rfl ?_
  refine G.get (pc' := 21) d_Clo_followTurn_18 rfl fg_Clo_124 (HX_21 _ _) rfl ?_
  refine G.get (pc' := 24) d_Clo_followTurn_21 rfl fg_Clo_139 (HX_16 _ _) rfl ?_
  refine G.iload_n (pc' := 25) d_Clo_followTurn_24 rfl rfl ?_
  refine G.iald (pc' := 26) d_Clo_followTurn_25 rfl (HX_20 _ _) ?_
  refine G.istore (ρ' := [some (vr 23), some (vi l1), some (vi l2), some (vi l3), some (vi (s 18 (ix l1))), some (vi (s 20 (ix l1))), none]) (pc' := 28) d_Clo_followTurn_26 rfl (by decide) rfl ?_
  refine G.iload (pc' := 30) d_Clo_followTurn_28 rfl rfl ?_
  refine G.if_ne (pc' := 33) (tgt := 44) d_Clo_followTurn_30 rfl (by decide) ?_ ?_
  · refine G.aload_n (pc' := 34) d_Clo_followTurn_33 rfl rfl ?_
    refine G.iload (pc' := 36) d_Clo_followTurn_34 rfl rfl ?_
    refine G.iload_n (pc' := 37) d_Clo_followTurn_36 rfl rfl ?_
    refine G.iload_n (pc' := 38) d_Clo_followTurn_37 rfl rfl ?_
    refine G.iconst (v := 1) (pc' := 39) d_Clo_followTurn_38 rfl kI_1 ?_
    refine G.iadd (pc' := 40) d_Clo_followTurn_39 rfl ?_
    refine G.callVv (As := [vi (s 20 (ix l1)), vi l2, vi (l3 + 1)]) (n := 3) (i := 23) (ci := 6) (st := []) (t_Clo_bringOn_23 (s 20 (ix l1)) l2 (l3 + 1) s _) (pc' := 43) d_Clo_followTurn_40 rfl lm_Clo_106 mk_Clo_bringOn mv_Clo_bringOn ⟨rfl, rfl⟩ ⟨by decide, by decide⟩ (HX_23 _ _) rfl rfl rfl rfl ⟨Nat.le_refl _, Nat.le_refl _⟩ rfl (fun v1 s1 => ?_)
    exact G.vret d_Clo_followTurn_43 rfl ⟨Nat.le_refl _, Nat.le_refl _⟩
  · refine G.aload_n (pc' := 45) d_Clo_followTurn_44 rfl rfl ?_
    refine G.get (pc' := 48) d_Clo_followTurn_45 rfl fg_Clo_22 (HX_23 _ _) rfl ?_
    refine G.get (pc' := 51) d_Clo_followTurn_48 rfl fg_Clo_124 (HX_21 _ _) rfl ?_
    refine G.get (pc' := 54) d_Clo_followTurn_51 rfl fg_Clo_133 (HX_16 _ _) rfl ?_
    refine G.iload_n (pc' := 55) d_Clo_followTurn_54 rfl rfl ?_
    refine G.iald (pc' := 56) d_Clo_followTurn_55 rfl (HX_19 _ _) ?_
    refine G.istore (ρ' := [some (vr 23), some (vi l1), some (vi l2), some (vi l3), some (vi (s 18 (ix l1))), some (vi (s 20 (ix l1))), some (vi (s 19 (ix l1)))]) (pc' := 58) d_Clo_followTurn_56 rfl (by decide) rfl ?_
    refine G.aload_n (pc' := 59) d_Clo_followTurn_58 rfl rfl ?_
    refine G.get (pc' := 62) d_Clo_followTurn_59 rfl fg_Clo_22 (HX_23 _ _) rfl ?_
    refine G.iload (pc' := 64) d_Clo_followTurn_62 rfl rfl ?_
    refine G.callVi (As := [vi (s 19 (ix l1))]) (n := 1) (i := 21) (ci := 5) (st := []) (t_Snap_counts (s 19 (ix l1)) s _) (pc' := 67) d_Clo_followTurn_64 rfl lm_Clo_148 mk_Snap_counts mv_Snap_counts ⟨rfl, rfl⟩ ⟨by decide, by decide⟩ (HX_21 _ _) rfl rfl rfl rfl ⟨Nat.le_refl _, Nat.le_refl _⟩ rfl (fun v2 s2 => ?_)
    refine G.if_ne (pc' := 70) (tgt := 71) d_Clo_followTurn_67 rfl (by decide) ?_ ?_
    · exact G.vret d_Clo_followTurn_70 rfl ⟨Nat.le_refl _, Nat.le_refl _⟩
    · refine G.iload (pc' := 73) d_Clo_followTurn_71 rfl rfl ?_
      refine G.iconst (v := 1) (pc' := 74) d_Clo_followTurn_73 rfl kI_1 ?_
      refine G.icmp_eq (pc' := 77) (tgt := 83) d_Clo_followTurn_74 rfl (by decide) ?_ ?_
      · refine G.mask [true, false, true, true, true, true, true] (ρ' := [some (vr 23), none, some (vi l2), some (vi l3), some (vi (s 18 (ix l1))), some (vi (s 20 (ix l1))), some (vi (s 19 (ix l1)))]) rfl ?_
        exact t_Clo_followTurn_23_83 l2 l3 (s 18 (ix l1)) (s 20 (ix l1)) (s 19 (ix l1)) s2
      · refine G.iload (pc' := 79) d_Clo_followTurn_77 rfl rfl ?_
        refine G.iconst (v := 2) (pc' := 80) d_Clo_followTurn_79 rfl kI_2 ?_
        refine G.icmp_ne (pc' := 83) (tgt := 93) d_Clo_followTurn_80 rfl (by decide) ?_ ?_
        · refine G.mask [true, false, true, true, true, true, true] (ρ' := [some (vr 23), none, some (vi l2), some (vi l3), some (vi (s 18 (ix l1))), some (vi (s 20 (ix l1))), some (vi (s 19 (ix l1)))]) rfl ?_
          exact t_Clo_followTurn_23_83 l2 l3 (s 18 (ix l1)) (s 20 (ix l1)) (s 19 (ix l1)) s2
        · refine G.mask [true, false, true, true, true, true, true] (ρ' := [some (vr 23), none, some (vi l2), some (vi l3), some (vi (s 18 (ix l1))), some (vi (s 20 (ix l1))), some (vi (s 19 (ix l1)))]) rfl ?_
          exact t_Clo_followTurn_23_93 l2 l3 (s 18 (ix l1)) (s 20 (ix l1)) (s 19 (ix l1)) s2
theorem t_Clo_followTurn_26_119 {R : List AC}  (l2 l3 l5 l6 : Int32) (s : Sg) : Gd q_Clo_followTurn none 119 [some (vr 26), none, some (vi l2), some (vi l3), none, some (vi l5), some (vi l6)] [] s R 0 0 (f_Clo_followTurn_119 26 l2 l3 l5 l6 s) := by
  unfold f_Clo_followTurn_119
  refine G.aload_n (pc' := 120) d_Clo_followTurn_119 rfl rfl ?_
  refine G.iload (pc' := 122) d_Clo_followTurn_120 rfl rfl ?_
  refine G.aload_n (pc' := 123) d_Clo_followTurn_122 rfl rfl ?_
  refine G.get (pc' := 126) d_Clo_followTurn_123 rfl fg_Clo_22 (HX_26 _ _) rfl ?_
  refine G.get (pc' := 129) d_Clo_followTurn_126 rfl fg_Clo_58 (HX_21 _ _) rfl ?_
  refine G.iload (pc' := 131) d_Clo_followTurn_129 rfl rfl ?_
  refine G.iload_n (pc' := 132) d_Clo_followTurn_131 rfl rfl ?_
  refine G.callVi (As := [vi l6, vi l2]) (n := 2) (i := 8) (ci := 3) (st := [vi l5, vr 26]) (t_Users_farSide l6 l2 s _) (pc' := 135) d_Clo_followTurn_132 rfl lm_Clo_109 mk_Users_farSide mv_Users_farSide ⟨rfl, rfl⟩ ⟨by decide, by decide⟩ (HX_8 _ _) rfl rfl rfl rfl ⟨Nat.le_refl _, Nat.le_refl _⟩ rfl (fun v1 s1 => ?_)
  refine G.iload_n (pc' := 136) d_Clo_followTurn_135 rfl rfl ?_
  refine G.iconst (v := 1) (pc' := 137) d_Clo_followTurn_136 rfl kI_1 ?_
  refine G.iadd (pc' := 138) d_Clo_followTurn_137 rfl ?_
  refine G.callVv (As := [vi l5, vi v1, vi (l3 + 1)]) (n := 3) (i := 26) (ci := 6) (st := []) (t_Clo_bringOn_26 l5 v1 (l3 + 1) s1 _) (pc' := 141) d_Clo_followTurn_138 rfl lm_Clo_106 mk_Clo_bringOn mv_Clo_bringOn ⟨rfl, rfl⟩ ⟨by decide, by decide⟩ (HX_26 _ _) rfl rfl rfl rfl ⟨Nat.le_refl _, Nat.le_refl _⟩ rfl (fun v2 s2 => ?_)
  exact G.vret d_Clo_followTurn_141 rfl ⟨Nat.le_refl _, Nat.le_refl _⟩
theorem t_Clo_followTurn_26_93 {R : List AC}  (l2 l3 l4 l5 l6 : Int32) (s : Sg) : Gd q_Clo_followTurn none 93 [some (vr 26), none, some (vi l2), some (vi l3), some (vi l4), some (vi l5), some (vi l6)] [] s R 0 0 (f_Clo_followTurn_93 26 l2 l3 l4 l5 l6 s) := by
  unfold f_Clo_followTurn_93
  refine G.iload (pc' := 95) d_Clo_followTurn_93 rfl rfl ?_
  refine G.iconst (v := 2) (pc' := 96) d_Clo_followTurn_95 rfl kI_2 ?_
  refine G.icmp_eq (pc' := 99) (tgt := 119) d_Clo_followTurn_96 rfl (by decide) ?_ ?_
  · refine G.mask [true, false, true, true, false, true, true] (ρ' := [some (vr 26), none, some (vi l2), some (vi l3), none, some (vi l5), some (vi l6)]) rfl ?_
    exact t_Clo_followTurn_26_119 l2 l3 l5 l6 s
  · refine G.iload (pc' := 101) d_Clo_followTurn_99 rfl rfl ?_
    refine G.iconst (v := 3) (pc' := 102) d_Clo_followTurn_101 rfl kI_3 ?_
    refine G.icmp_ne (pc' := 105) (tgt := 141) d_Clo_followTurn_102 rfl (by decide) ?_ ?_
    · refine G.aload_n (pc' := 106) d_Clo_followTurn_105 rfl rfl ?_
      refine G.iload (pc' := 108) d_Clo_followTurn_106 rfl rfl ?_
      refine G.iload_n (pc' := 109) d_Clo_followTurn_108 rfl rfl ?_
      refine G.callVi (As := [vi l6, vi l2]) (n := 2) (i := 26) (ci := 6) (st := []) (t_Clo_liveStage_26 l6 l2 s _) (pc' := 112) d_Clo_followTurn_109 rfl lm_Clo_151 mk_Clo_liveStage mv_Clo_liveStage ⟨rfl, rfl⟩ ⟨by decide, by decide⟩ (HX_26 _ _) rfl rfl rfl rfl ⟨Nat.le_refl _, Nat.le_refl _⟩ rfl (fun v1 s1 => ?_)
      refine G.iload_n (pc' := 113) d_Clo_followTurn_112 rfl rfl ?_
      refine G.callSi (As := [vi v1, vi l3]) (n := 2) (st := []) (t_Clo_isBy v1 l3 s1 _) (pc' := 116) d_Clo_followTurn_113 rfl lm_Clo_103 mk_Clo_isBy sx_Clo_isBy ⟨rfl, rfl⟩ ⟨by decide, by decide⟩ rfl rfl rfl ⟨Nat.le_refl _, Nat.le_refl _⟩ rfl (fun v2 s2 => ?_)
      refine G.if_eq (pc' := 119) (tgt := 141) d_Clo_followTurn_116 rfl (by decide) ?_ ?_
      · exact G.vret d_Clo_followTurn_141 rfl ⟨Nat.le_refl _, Nat.le_refl _⟩
      · refine G.mask [true, false, true, true, false, true, true] (ρ' := [some (vr 26), none, some (vi l2), some (vi l3), none, some (vi l5), some (vi l6)]) rfl ?_
        exact t_Clo_followTurn_26_119 l2 l3 l5 l6 s2
    · exact G.vret d_Clo_followTurn_141 rfl ⟨Nat.le_refl _, Nat.le_refl _⟩
theorem t_Clo_followTurn_26_83 {R : List AC}  (l2 l3 l4 l5 l6 : Int32) (s : Sg) : Gd q_Clo_followTurn none 83 [some (vr 26), none, some (vi l2), some (vi l3), some (vi l4), some (vi l5), some (vi l6)] [] s R 0 0 (f_Clo_followTurn_83 26 l2 l3 l4 l5 l6 s) := by
  unfold f_Clo_followTurn_83
  refine G.aload_n (pc' := 84) d_Clo_followTurn_83 rfl rfl ?_
  refine G.iload (pc' := 86) d_Clo_followTurn_84 rfl rfl ?_
  refine G.iload_n (pc' := 87) d_Clo_followTurn_86 rfl rfl ?_
  refine G.iload_n (pc' := 88) d_Clo_followTurn_87 rfl rfl ?_
  refine G.iconst (v := 1) (pc' := 89) d_Clo_followTurn_88 rfl kI_1 ?_
  refine G.iadd (pc' := 90) d_Clo_followTurn_89 rfl ?_
  refine G.callVv (As := [vi l6, vi l2, vi (l3 + 1)]) (n := 3) (i := 26) (ci := 6) (st := []) (t_Clo_bringLive_26 l6 l2 (l3 + 1) s _) (pc' := 93) d_Clo_followTurn_90 rfl lm_Clo_71 mk_Clo_bringLive mv_Clo_bringLive ⟨rfl, rfl⟩ ⟨by decide, by decide⟩ (HX_26 _ _) rfl rfl rfl rfl ⟨Nat.le_refl _, Nat.le_refl _⟩ rfl (fun v1 s1 => ?_)
  exact t_Clo_followTurn_26_93 l2 l3 l4 l5 l6 s1
theorem t_Clo_followTurn_26 (l1 l2 l3 : Int32) (s : Sg) (R : List AC) : Ct q_Clo_followTurn [vr 26, vi l1, vi l2, vi l3] s R (f_Clo_followTurn 26 l1 l2 l3 s) := by
  refine Ct.of (by decide) rfl (ρ := [some (vr 26), some (vi l1), some (vi l2), some (vi l3), none, none, none]) rfl ?_
  unfold f_Clo_followTurn
  refine G.aload_n (pc' := 1) d_Clo_followTurn_0 rfl rfl ?_
  refine G.get (pc' := 4) d_Clo_followTurn_1 rfl fg_Clo_22 (HX_26 _ _) rfl ?_
  refine G.get (pc' := 7) d_Clo_followTurn_4 rfl fg_Clo_124 (HX_21 _ _) rfl ?_
  refine G.get (pc' := 10) d_Clo_followTurn_7 rfl fg_Clo_128 (HX_16 _ _) rfl ?_
  refine G.iload_n (pc' := 11) d_Clo_followTurn_10 rfl rfl ?_
  refine G.iald (pc' := 12) d_Clo_followTurn_11 rfl (HX_18 _ _) ?_
  refine G.istore (ρ' := [some (vr 26), some (vi l1), some (vi l2), some (vi l3), some (vi (s 18 (ix l1))), none, none]) (pc' := 14) d_Clo_followTurn_12 rfl (by decide) rfl ?_
  refine G.aload_n (pc' := 15) d_Clo_followTurn_14 rfl rfl ?_
  refine G.get (pc' := 18) d_Clo_followTurn_15 rfl fg_Clo_22 (HX_26 _ _) rfl ?_
  refine G.get (pc' := 21) d_Clo_followTurn_18 rfl fg_Clo_124 (HX_21 _ _) rfl ?_
  refine G.get (pc' := 24) d_Clo_followTurn_21 rfl fg_Clo_139 (HX_16 _ _) rfl ?_
  refine G.iload_n (pc' := 25) d_Clo_followTurn_24 rfl rfl ?_
  refine G.iald (pc' := 26) d_Clo_followTurn_25 rfl (HX_20 _ _) ?_
  refine G.istore (ρ' := [some (vr 26), some (vi l1), some (vi l2), some (vi l3), some (vi (s 18 (ix l1))), some (vi (s 20 (ix l1))), none]) (pc' := 28) d_Clo_followTurn_26 rfl (by decide) rfl ?_
  refine G.iload (pc' := 30) d_Clo_followTurn_28 rfl rfl ?_
  refine G.if_ne (pc' := 33) (tgt := 44) d_Clo_followTurn_30 rfl (by decide) ?_ ?_
  · refine G.aload_n (pc' := 34) d_Clo_followTurn_33 rfl rfl ?_
    refine G.iload (pc' := 36) d_Clo_followTurn_34 rfl rfl ?_
    refine G.iload_n (pc' := 37) d_Clo_followTurn_36 rfl rfl ?_
    refine G.iload_n (pc' := 38) d_Clo_followTurn_37 rfl rfl ?_
    refine G.iconst (v := 1) (pc' := 39) d_Clo_followTurn_38 rfl kI_1 ?_
    refine G.iadd (pc' := 40) d_Clo_followTurn_39 rfl ?_
    refine G.callVv (As := [vi (s 20 (ix l1)), vi l2, vi (l3 + 1)]) (n := 3) (i := 26) (ci := 6) (st := []) (t_Clo_bringOn_26 (s 20 (ix l1)) l2 (l3 + 1) s _) (pc' := 43) d_Clo_followTurn_40 rfl lm_Clo_106 mk_Clo_bringOn mv_Clo_bringOn ⟨rfl, rfl⟩ ⟨by decide, by decide⟩ (HX_26 _ _) rfl rfl rfl rfl ⟨Nat.le_refl _, Nat.le_refl _⟩ rfl (fun v1 s1 => ?_)
    exact G.vret d_Clo_followTurn_43 rfl ⟨Nat.le_refl _, Nat.le_refl _⟩
  · refine G.aload_n (pc' := 45) d_Clo_followTurn_44 rfl rfl ?_
    refine G.get (pc' := 48) d_Clo_followTurn_45 rfl fg_Clo_22 (HX_26 _ _) rfl ?_
    refine G.get (pc' := 51) d_Clo_followTurn_48 rfl fg_Clo_124 (HX_21 _ _) rfl ?_
    refine G.get (pc' := 54) d_Clo_followTurn_51 rfl fg_Clo_133 (HX_16 _ _) rfl ?_
    refine G.iload_n (pc' := 55) d_Clo_followTurn_54 rfl rfl ?_
    refine G.iald (pc' := 56) d_Clo_followTurn_55 rfl (HX_19 _ _) ?_
    refine G.istore (ρ' := [some (vr 26), some (vi l1), some (vi l2), some (vi l3), some (vi (s 18 (ix l1))), some (vi (s 20 (ix l1))), some (vi (s 19 (ix l1)))]) (pc' := 58) d_Clo_followTurn_56 rfl (by decide) rfl ?_
    refine G.aload_n (pc' := 59) d_Clo_followTurn_58 rfl rfl ?_
    refine G.get (pc' := 62) d_Clo_followTurn_59 rfl fg_Clo_22 (HX_26 _ _) rfl ?_
    refine G.iload (pc' := 64) d_Clo_followTurn_62 rfl rfl ?_
    refine G.callVi (As := [vi (s 19 (ix l1))]) (n := 1) (i := 21) (ci := 5) (st := []) (t_Snap_counts (s 19 (ix l1)) s _) (pc' := 67) d_Clo_followTurn_64 rfl lm_Clo_148 mk_Snap_counts mv_Snap_counts ⟨rfl, rfl⟩ ⟨by decide, by decide⟩ (HX_21 _ _) rfl rfl rfl rfl ⟨Nat.le_refl _, Nat.le_refl _⟩ rfl (fun v2 s2 => ?_)
    refine G.if_ne (pc' := 70) (tgt := 71) d_Clo_followTurn_67 rfl (by decide) ?_ ?_
    · exact G.vret d_Clo_followTurn_70 rfl ⟨Nat.le_refl _, Nat.le_refl _⟩
    · refine G.iload (pc' := 73) d_Clo_followTurn_71 rfl rfl ?_
      refine G.iconst (v := 1) (pc' := 74) d_Clo_followTurn_73 rfl kI_1 ?_
      refine G.icmp_eq (pc' := 77) (tgt := 83) d_Clo_followTurn_74 rfl (by decide) ?_ ?_
      · refine G.mask [true, false, true, true, true, true, true] (ρ' := [some (vr 26), none, some (vi l2), some (vi l3), some (vi (s 18 (ix l1))), some (vi (s 20 (ix l1))), some (vi (s 19 (ix l1)))]) rfl ?_
        exact t_Clo_followTurn_26_83 l2 l3 (s 18 (ix l1)) (s 20 (ix l1)) (s 19 (ix l1)) s2
      · refine G.iload (pc' := 79) d_Clo_followTurn_77 rfl rfl ?_
        refine G.iconst (v := 2) (pc' := 80) d_Clo_followTurn_79 rfl kI_2 ?_
        refine G.icmp_ne (pc' := 83) (tgt := 93) d_Clo_followTurn_80 rfl (by decide) ?_ ?_
        · refine G.mask [true, false, true, true, true, true, true] (ρ' := [some (vr 26), none, some (vi l2), some (vi l3), some (vi (s 18 (ix l1))), some (vi (s 20 (ix l1))), some (vi (s 19 (ix l1)))]) rfl ?_
          exact t_Clo_followTurn_26_83 l2 l3 (s 18 (ix l1)) (s 20 (ix l1)) (s 19 (ix l1)) s2
        · refine G.mask [true, false, true, true, true, true, true] (ρ' := [some (vr 26), none, some (vi l2), some (vi l3), some (vi (s 18 (ix l1))), some (vi (s 20 (ix l1))), some (vi (s 19 (ix l1)))]) rfl ?_
          exact t_Clo_followTurn_26_93 l2 l3 (s 18 (ix l1)) (s 20 (ix l1)) (s 19 (ix l1)) s2
theorem t_Clo_followOn_23_60 {R : List AC}  (l1 l2 l3 : Int32) : ∀ (l5 : Int32) (s : Sg), Gd q_Clo_followOn none 60 [some (vr 23), some (vi l1), some (vi l2), some (vi l3), none, some (vi l5)] [] s R 0 0 (f_Clo_followOn_60 23 l1 l2 l3 l5 s) := by
  intro l5 s
  unfold f_Clo_followOn_60
  refine G.loop1 (rf := fun l5 => [some (vr 23), some (vi l1), some (vi l2), some (vi l3), none, some (vi l5)]) ?_ 4096 l5 s
  intro rec60 hrec60 l5 s
  refine G.iload (pc' := 62) d_Clo_followOn_60 rfl rfl ?_
  refine G.aload_n (pc' := 63) d_Clo_followOn_62 rfl rfl ?_
  refine G.get (pc' := 66) d_Clo_followOn_63 rfl fg_Clo_22 (HX_23 _ _) rfl ?_
  refine G.get (pc' := 69) d_Clo_followOn_66 rfl fg_Clo_121 (HX_21 _ _) rfl ?_
  refine G.icmp_ge (pc' := 72) (tgt := 103) d_Clo_followOn_69 rfl (by decide) ?_ ?_
  · exact G.vret d_Clo_followOn_103 rfl ⟨Nat.le_refl _, Nat.le_refl _⟩
  · refine G.aload_n (pc' := 73) d_Clo_followOn_72 rfl rfl ?_
    refine G.get (pc' := 76) d_Clo_followOn_73 rfl fg_Clo_22 (HX_23 _ _) rfl ?_
    refine G.get (pc' := 79) d_Clo_followOn_76 rfl fg_Clo_124 (HX_21 _ _) rfl ?_
    refine G.get (pc' := 82) d_Clo_followOn_79 rfl fg_Clo_136 (HX_16 _ _) rfl ?_
    refine G.iload (pc' := 84) d_Clo_followOn_82 rfl rfl ?_
    refine G.iald (pc' := 85) d_Clo_followOn_84 rfl (HX_17 _ _) ?_
    refine G.iload_n (pc' := 86) d_Clo_followOn_85 rfl rfl ?_
    refine G.icmp_ne (pc' := 89) (tgt := 97) d_Clo_followOn_86 rfl (by decide) ?_ ?_
    · refine G.aload_n (pc' := 90) d_Clo_followOn_89 rfl rfl ?_
      refine G.iload (pc' := 92) d_Clo_followOn_90 rfl rfl ?_
      refine G.iload_n (pc' := 93) d_Clo_followOn_92 rfl rfl ?_
      refine G.iload_n (pc' := 94) d_Clo_followOn_93 rfl rfl ?_
      refine G.callVv (As := [vi l5, vi l2, vi l3]) (n := 3) (i := 23) (ci := 6) (st := []) (t_Clo_followTurn_23 l5 l2 l3 s _) (pc' := 97) d_Clo_followOn_94 rfl lm_Clo_145 mk_Clo_followTurn mv_Clo_followTurn ⟨rfl, rfl⟩ ⟨by decide, by decide⟩ (HX_23 _ _) rfl rfl rfl rfl ⟨Nat.le_refl _, Nat.le_refl _⟩ rfl (fun v1 s1 => ?_)
      refine G.iinc (w := 1) (v := l5 + 1) (ρ' := [some (vr 23), some (vi l1), some (vi l2), some (vi l3), none, some (vi (l5 + 1))]) (pc' := 100) d_Clo_followOn_97 rfl rfl (by decide) kI_1 rfl rfl ?_
      refine G.goto (tgt := 60) d_Clo_followOn_100 (by decide) ?_
      exact hrec60 (l5 + 1) s1
    · refine G.iinc (w := 1) (v := l5 + 1) (ρ' := [some (vr 23), some (vi l1), some (vi l2), some (vi l3), none, some (vi (l5 + 1))]) (pc' := 100) d_Clo_followOn_97 rfl rfl (by decide) kI_1 rfl rfl ?_
      refine G.goto (tgt := 60) d_Clo_followOn_100 (by decide) ?_
      exact hrec60 (l5 + 1) s
theorem t_Clo_followOn_23 (l1 l2 l3 : Int32) (s : Sg) (R : List AC) : Ct q_Clo_followOn [vr 23, vi l1, vi l2, vi l3] s R (f_Clo_followOn 23 l1 l2 l3 s) := by
  refine Ct.of (by decide) rfl (ρ := [some (vr 23), some (vi l1), some (vi l2), some (vi l3), none, none]) rfl ?_
  unfold f_Clo_followOn
  refine G.aload_n (pc' := 1) d_Clo_followOn_0 rfl rfl ?_
  refine G.get (pc' := 4) d_Clo_followOn_1 rfl fg_Clo_22 (HX_23 _ _) rfl ?_
  refine G.get (pc' := 7) d_Clo_followOn_4 rfl fg_Clo_77 (HX_21 _ _) rfl ?_
  refine G.get (pc' := 10) d_Clo_followOn_7 rfl fg_Clo_81 (HX_3 _ _) rfl ?_
  refine G.iload_n (pc' := 11) d_Clo_followOn_10 rfl rfl ?_
  refine G.iald (pc' := 12) d_Clo_followOn_11 rfl (HX_4 _ _) ?_
  refine G.istore (ρ' := [some (vr 23), some (vi l1), some (vi l2), some (vi l3), some (vi (s 4 (ix l1))), none]) (pc' := 14) d_Clo_followOn_12 rfl (by decide) rfl ?_
  refine G.aload_n (pc' := 15) d_Clo_followOn_14 rfl rfl ?_
  refine G.get (pc' := 18) d_Clo_followOn_15 rfl fg_Clo_22 (HX_23 _ _) rfl ?_
  refine G.get (pc' := 21) d_Clo_followOn_18 rfl fg_Clo_90 (HX_21 _ _) rfl ?_
  refine G.get (pc' := 24) d_Clo_followOn_21 rfl fg_Clo_94 (HX_1 _ _) rfl ?_
  refine G.iload (pc' := 26) d_Clo_followOn_24 rfl rfl ?_
  refine G.zald (pc' := 27) d_Clo_followOn_26 rfl (HX_2 _ _) ?_
  refine G.if_ne (pc' := 30) (tgt := 57) d_Clo_followOn_27 rfl (by decide) ?_ ?_
  · refine G.aload_n (pc' := 31) d_Clo_followOn_30 rfl rfl ?_
    refine G.iload (pc' := 33) d_Clo_followOn_31 rfl rfl ?_
    refine G.iconst (v := 1) (pc' := 34) d_Clo_followOn_33 rfl kI_1 ?_
    refine G.iload_n (pc' := 35) d_Clo_followOn_34 rfl rfl ?_
    refine G.isub (pc' := 36) d_Clo_followOn_35 rfl ?_
    refine G.callVi (As := [vi (s 4 (ix l1)), vi (1 - l2)]) (n := 2) (i := 23) (ci := 6) (st := []) (t_Clo_thereStage_23 (s 4 (ix l1)) (1 - l2) s _) (pc' := 39) d_Clo_followOn_36 rfl lm_Clo_142 mk_Clo_thereStage mv_Clo_thereStage ⟨rfl, rfl⟩ ⟨by decide, by decide⟩ (HX_23 _ _) rfl rfl rfl rfl ⟨Nat.le_refl _, Nat.le_refl _⟩ rfl (fun v1 s1 => ?_)
    refine G.iload_n (pc' := 40) d_Clo_followOn_39 rfl rfl ?_
    refine G.callSi (As := [vi v1, vi l3]) (n := 2) (st := []) (t_Clo_isBy v1 l3 s1 _) (pc' := 43) d_Clo_followOn_40 rfl lm_Clo_103 mk_Clo_isBy sx_Clo_isBy ⟨rfl, rfl⟩ ⟨by decide, by decide⟩ rfl rfl rfl ⟨Nat.le_refl _, Nat.le_refl _⟩ rfl (fun v2 s2 => ?_)
    refine G.if_eq (pc' := 46) (tgt := 57) d_Clo_followOn_43 rfl (by decide) ?_ ?_
    · refine G.iconst (v := 0) (pc' := 58) d_Clo_followOn_57 rfl kI_0 ?_
      refine G.istore (ρ' := [some (vr 23), some (vi l1), some (vi l2), some (vi l3), some (vi (s 4 (ix l1))), some (vi 0)]) (pc' := 60) d_Clo_followOn_58 rfl (by decide) rfl ?_
      refine G.mask [true, true, true, true, false, true] (ρ' := [some (vr 23), some (vi l1), some (vi l2), some (vi l3), none, some (vi 0)]) rfl ?_
      exact t_Clo_followOn_23_60 l1 l2 l3 0 s2
    · refine G.aload_n (pc' := 47) d_Clo_followOn_46 rfl rfl ?_
      refine G.iload_n (pc' := 48) d_Clo_followOn_47 rfl rfl ?_
      refine G.iconst (v := 1) (pc' := 49) d_Clo_followOn_48 rfl kI_1 ?_
      refine G.iload_n (pc' := 50) d_Clo_followOn_49 rfl rfl ?_
      refine G.isub (pc' := 51) d_Clo_followOn_50 rfl ?_
      refine G.iload_n (pc' := 52) d_Clo_followOn_51 rfl rfl ?_
      refine G.iconst (v := 1) (pc' := 53) d_Clo_followOn_52 rfl kI_1 ?_
      refine G.iadd (pc' := 54) d_Clo_followOn_53 rfl ?_
      refine G.callVv (As := [vi l1, vi (1 - l2), vi (l3 + 1)]) (n := 3) (i := 23) (ci := 6) (st := []) (t_Clo_bringOn_23 l1 (1 - l2) (l3 + 1) s2 _) (pc' := 57) d_Clo_followOn_54 rfl lm_Clo_106 mk_Clo_bringOn mv_Clo_bringOn ⟨rfl, rfl⟩ ⟨by decide, by decide⟩ (HX_23 _ _) rfl rfl rfl rfl ⟨Nat.le_refl _, Nat.le_refl _⟩ rfl (fun v3 s3 => ?_)
      refine G.iconst (v := 0) (pc' := 58) d_Clo_followOn_57 rfl kI_0 ?_
      refine G.istore (ρ' := [some (vr 23), some (vi l1), some (vi l2), some (vi l3), some (vi (s 4 (ix l1))), some (vi 0)]) (pc' := 60) d_Clo_followOn_58 rfl (by decide) rfl ?_
      refine G.mask [true, true, true, true, false, true] (ρ' := [some (vr 23), some (vi l1), some (vi l2), some (vi l3), none, some (vi 0)]) rfl ?_
      exact t_Clo_followOn_23_60 l1 l2 l3 0 s3
  · refine G.iconst (v := 0) (pc' := 58) d_Clo_followOn_57 rfl kI_0 ?_
    refine G.istore (ρ' := [some (vr 23), some (vi l1), some (vi l2), some (vi l3), some (vi (s 4 (ix l1))), some (vi 0)]) (pc' := 60) d_Clo_followOn_58 rfl (by decide) rfl ?_
    refine G.mask [true, true, true, true, false, true] (ρ' := [some (vr 23), some (vi l1), some (vi l2), some (vi l3), none, some (vi 0)]) rfl ?_
    exact t_Clo_followOn_23_60 l1 l2 l3 0 s
theorem t_Clo_followOn_26_60 {R : List AC}  (l1 l2 l3 : Int32) : ∀ (l5 : Int32) (s : Sg), Gd q_Clo_followOn none 60 [some (vr 26), some (vi l1), some (vi l2), some (vi l3), none, some (vi l5)] [] s R 0 0 (f_Clo_followOn_60 26 l1 l2 l3 l5 s) := by
  intro l5 s
  unfold f_Clo_followOn_60
  refine G.loop1 (rf := fun l5 => [some (vr 26), some (vi l1), some (vi l2), some (vi l3), none, some (vi l5)]) ?_ 4096 l5 s
  intro rec60 hrec60 l5 s
  refine G.iload (pc' := 62) d_Clo_followOn_60 rfl rfl ?_
  refine G.aload_n (pc' := 63) d_Clo_followOn_62 rfl rfl ?_
  refine G.get (pc' := 66) d_Clo_followOn_63 rfl fg_Clo_22 (HX_26 _ _) rfl ?_
  refine G.get (pc' := 69) d_Clo_followOn_66 rfl fg_Clo_121 (HX_21 _ _) rfl ?_
  refine G.icmp_ge (pc' := 72) (tgt := 103) d_Clo_followOn_69 rfl (by decide) ?_ ?_
  · exact G.vret d_Clo_followOn_103 rfl ⟨Nat.le_refl _, Nat.le_refl _⟩
  · refine G.aload_n (pc' := 73) d_Clo_followOn_72 rfl rfl ?_
    refine G.get (pc' := 76) d_Clo_followOn_73 rfl fg_Clo_22 (HX_26 _ _) rfl ?_
    refine G.get (pc' := 79) d_Clo_followOn_76 rfl fg_Clo_124 (HX_21 _ _) rfl ?_
    refine G.get (pc' := 82) d_Clo_followOn_79 rfl fg_Clo_136 (HX_16 _ _) rfl ?_
    refine G.iload (pc' := 84) d_Clo_followOn_82 rfl rfl ?_
    refine G.iald (pc' := 85) d_Clo_followOn_84 rfl (HX_17 _ _) ?_
    refine G.iload_n (pc' := 86) d_Clo_followOn_85 rfl rfl ?_
    refine G.icmp_ne (pc' := 89) (tgt := 97) d_Clo_followOn_86 rfl (by decide) ?_ ?_
    · refine G.aload_n (pc' := 90) d_Clo_followOn_89 rfl rfl ?_
      refine G.iload (pc' := 92) d_Clo_followOn_90 rfl rfl ?_
      refine G.iload_n (pc' := 93) d_Clo_followOn_92 rfl rfl ?_
      refine G.iload_n (pc' := 94) d_Clo_followOn_93 rfl rfl ?_
      refine G.callVv (As := [vi l5, vi l2, vi l3]) (n := 3) (i := 26) (ci := 6) (st := []) (t_Clo_followTurn_26 l5 l2 l3 s _) (pc' := 97) d_Clo_followOn_94 rfl lm_Clo_145 mk_Clo_followTurn mv_Clo_followTurn ⟨rfl, rfl⟩ ⟨by decide, by decide⟩ (HX_26 _ _) rfl rfl rfl rfl ⟨Nat.le_refl _, Nat.le_refl _⟩ rfl (fun v1 s1 => ?_)
      refine G.iinc (w := 1) (v := l5 + 1) (ρ' := [some (vr 26), some (vi l1), some (vi l2), some (vi l3), none, some (vi (l5 + 1))]) (pc' := 100) d_Clo_followOn_97 rfl rfl (by decide) kI_1 rfl rfl ?_
      refine G.goto (tgt := 60) d_Clo_followOn_100 (by decide) ?_
      exact hrec60 (l5 + 1) s1
    · refine G.iinc (w := 1) (v := l5 + 1) (ρ' := [some (vr 26), some (vi l1), some (vi l2), some (vi l3), none, some (vi (l5 + 1))]) (pc' := 100) d_Clo_followOn_97 rfl rfl (by decide) kI_1 rfl rfl ?_
      refine G.goto (tgt := 60) d_Clo_followOn_100 (by decide) ?_
      exact hrec60 (l5 + 1) s
theorem t_Clo_followOn_26 (l1 l2 l3 : Int32) (s : Sg) (R : List AC) : Ct q_Clo_followOn [vr 26, vi l1, vi l2, vi l3] s R (f_Clo_followOn 26 l1 l2 l3 s) := by
  refine Ct.of (by decide) rfl (ρ := [some (vr 26), some (vi l1), some (vi l2), some (vi l3), none, none]) rfl ?_
  unfold f_Clo_followOn
  refine G.aload_n (pc' := 1) d_Clo_followOn_0 rfl rfl ?_
  refine G.get (pc' := 4) d_Clo_followOn_1 rfl fg_Clo_22 (HX_26 _ _) rfl ?_
  refine G.get (pc' := 7) d_Clo_followOn_4 rfl fg_Clo_77 (HX_21 _ _) rfl ?_
  refine G.get (pc' := 10) d_Clo_followOn_7 rfl fg_Clo_81 (HX_3 _ _) rfl ?_
  refine G.iload_n (pc' := 11) d_Clo_followOn_10 rfl rfl ?_
  refine G.iald (pc' := 12) d_Clo_followOn_11 rfl (HX_4 _ _) ?_
  refine G.istore (ρ' := [some (vr 26), some (vi l1), some (vi l2), some (vi l3), some (vi (s 4 (ix l1))), none]) (pc' := 14) d_Clo_followOn_12 rfl (by decide) rfl ?_
  refine G.aload_n (pc' := 15) d_Clo_followOn_14 rfl rfl ?_
  refine G.get (pc' := 18) d_Clo_followOn_15 rfl fg_Clo_22 (HX_26 _ _) rfl ?_
  refine G.get (pc' := 21) d_Clo_followOn_18 rfl fg_Clo_90 (HX_21 _ _) rfl ?_
  refine G.get (pc' := 24) d_Clo_followOn_21 rfl fg_Clo_94 (HX_1 _ _) rfl ?_
  refine G.iload (pc' := 26) d_Clo_followOn_24 rfl rfl ?_
  refine G.zald (pc' := 27) d_Clo_followOn_26 rfl (HX_2 _ _) ?_
  refine G.if_ne (pc' := 30) (tgt := 57) d_Clo_followOn_27 rfl (by decide) ?_ ?_
  · refine G.aload_n (pc' := 31) d_Clo_followOn_30 rfl rfl ?_
    refine G.iload (pc' := 33) d_Clo_followOn_31 rfl rfl ?_
    refine G.iconst (v := 1) (pc' := 34) d_Clo_followOn_33 rfl kI_1 ?_
    refine G.iload_n (pc' := 35) d_Clo_followOn_34 rfl rfl ?_
    refine G.isub (pc' := 36) d_Clo_followOn_35 rfl ?_
    refine G.callVi (As := [vi (s 4 (ix l1)), vi (1 - l2)]) (n := 2) (i := 26) (ci := 6) (st := []) (t_Clo_thereStage_26 (s 4 (ix l1)) (1 - l2) s _) (pc' := 39) d_Clo_followOn_36 rfl lm_Clo_142 mk_Clo_thereStage mv_Clo_thereStage ⟨rfl, rfl⟩ ⟨by decide, by decide⟩ (HX_26 _ _) rfl rfl rfl rfl ⟨Nat.le_refl _, Nat.le_refl _⟩ rfl (fun v1 s1 => ?_)
    refine G.iload_n (pc' := 40) d_Clo_followOn_39 rfl rfl ?_
    refine G.callSi (As := [vi v1, vi l3]) (n := 2) (st := []) (t_Clo_isBy v1 l3 s1 _) (pc' := 43) d_Clo_followOn_40 rfl lm_Clo_103 mk_Clo_isBy sx_Clo_isBy ⟨rfl, rfl⟩ ⟨by decide, by decide⟩ rfl rfl rfl ⟨Nat.le_refl _, Nat.le_refl _⟩ rfl (fun v2 s2 => ?_)
    refine G.if_eq (pc' := 46) (tgt := 57) d_Clo_followOn_43 rfl (by decide) ?_ ?_
    · refine G.iconst (v := 0) (pc' := 58) d_Clo_followOn_57 rfl kI_0 ?_
      refine G.istore (ρ' := [some (vr 26), some (vi l1), some (vi l2), some (vi l3), some (vi (s 4 (ix l1))), some (vi 0)]) (pc' := 60) d_Clo_followOn_58 rfl (by decide) rfl ?_
      refine G.mask [true, true, true, true, false, true] (ρ' := [some (vr 26), some (vi l1), some (vi l2), some (vi l3), none, some (vi 0)]) rfl ?_
      exact t_Clo_followOn_26_60 l1 l2 l3 0 s2
    · refine G.aload_n (pc' := 47) d_Clo_followOn_46 rfl rfl ?_
      refine G.iload_n (pc' := 48) d_Clo_followOn_47 rfl rfl ?_
      refine G.iconst (v := 1) (pc' := 49) d_Clo_followOn_48 rfl kI_1 ?_
      refine G.iload_n (pc' := 50) d_Clo_followOn_49 rfl rfl ?_
      refine G.isub (pc' := 51) d_Clo_followOn_50 rfl ?_
      refine G.iload_n (pc' := 52) d_Clo_followOn_51 rfl rfl ?_
      refine G.iconst (v := 1) (pc' := 53) d_Clo_followOn_52 rfl kI_1 ?_
      refine G.iadd (pc' := 54) d_Clo_followOn_53 rfl ?_
      refine G.callVv (As := [vi l1, vi (1 - l2), vi (l3 + 1)]) (n := 3) (i := 26) (ci := 6) (st := []) (t_Clo_bringOn_26 l1 (1 - l2) (l3 + 1) s2 _) (pc' := 57) d_Clo_followOn_54 rfl lm_Clo_106 mk_Clo_bringOn mv_Clo_bringOn ⟨rfl, rfl⟩ ⟨by decide, by decide⟩ (HX_26 _ _) rfl rfl rfl rfl ⟨Nat.le_refl _, Nat.le_refl _⟩ rfl (fun v3 s3 => ?_)
      refine G.iconst (v := 0) (pc' := 58) d_Clo_followOn_57 rfl kI_0 ?_
      refine G.istore (ρ' := [some (vr 26), some (vi l1), some (vi l2), some (vi l3), some (vi (s 4 (ix l1))), some (vi 0)]) (pc' := 60) d_Clo_followOn_58 rfl (by decide) rfl ?_
      refine G.mask [true, true, true, true, false, true] (ρ' := [some (vr 26), some (vi l1), some (vi l2), some (vi l3), none, some (vi 0)]) rfl ?_
      exact t_Clo_followOn_26_60 l1 l2 l3 0 s3
  · refine G.iconst (v := 0) (pc' := 58) d_Clo_followOn_57 rfl kI_0 ?_
    refine G.istore (ρ' := [some (vr 26), some (vi l1), some (vi l2), some (vi l3), some (vi (s 4 (ix l1))), some (vi 0)]) (pc' := 60) d_Clo_followOn_58 rfl (by decide) rfl ?_
    refine G.mask [true, true, true, true, false, true] (ρ' := [some (vr 26), some (vi l1), some (vi l2), some (vi l3), none, some (vi 0)]) rfl ?_
    exact t_Clo_followOn_26_60 l1 l2 l3 0 s
theorem t_Clo_follow_23 (l1 : Int32) (s : Sg) (R : List AC) : Ct q_Clo_follow [vr 23, vi l1] s R (f_Clo_follow 23 l1 s) := by
  refine Ct.of (by decide) rfl (ρ := [some (vr 23), some (vi l1), none, none]) rfl ?_
  unfold f_Clo_follow
  refine G.iload_n (pc' := 1) d_Clo_follow_0 rfl rfl ?_
  refine G.iconst (v := 2) (pc' := 2) d_Clo_follow_1 rfl kI_2 ?_
  refine G.iremK (by decide) (pc' := 3) d_Clo_follow_2 rfl ?_
  refine G.istore_n (ρ' := [some (vr 23), some (vi l1), some (vi (l1 - l1 / 2 * 2)), none]) (pc' := 4) d_Clo_follow_3 rfl (by decide) rfl ?_
  refine G.aload_n (pc' := 5) d_Clo_follow_4 rfl rfl ?_
  refine G.get (pc' := 8) d_Clo_follow_5 rfl fg_Clo_9 (HX_23 _ _) rfl ?_
  refine G.iload_n (pc' := 9) d_Clo_follow_8 rfl rfl ?_
  refine G.iald (pc' := 10) d_Clo_follow_9 rfl (HX_24 _ _) ?_
  refine G.istore_n (ρ' := [some (vr 23), some (vi l1), some (vi (l1 - l1 / 2 * 2)), some (vi (s 24 (ix l1)))]) (pc' := 11) d_Clo_follow_10 rfl (by decide) rfl ?_
  refine G.iload_n (pc' := 12) d_Clo_follow_11 rfl rfl ?_
  refine G.bipush (v := 20) (pc' := 14) d_Clo_follow_12 rfl kB_20 ?_
  refine G.icmp_ge (pc' := 17) (tgt := 29) d_Clo_follow_14 rfl (by decide) ?_ ?_
  · refine G.iload_n (pc' := 30) d_Clo_follow_29 rfl rfl ?_
    refine G.bipush (v := 100) (pc' := 32) d_Clo_follow_30 rfl kB_100 ?_
    refine G.icmp_ge (pc' := 35) (tgt := 50) d_Clo_follow_32 rfl (by decide) ?_ ?_
    · refine G.aload_n (pc' := 51) d_Clo_follow_50 rfl rfl ?_
      refine G.iload_n (pc' := 52) d_Clo_follow_51 rfl rfl ?_
      refine G.bipush (v := 100) (pc' := 54) d_Clo_follow_52 rfl kB_100 ?_
      refine G.isub (pc' := 55) d_Clo_follow_54 rfl ?_
      refine G.iconst (v := 2) (pc' := 56) d_Clo_follow_55 rfl kI_2 ?_
      refine G.idivK (by decide) (pc' := 57) d_Clo_follow_56 rfl ?_
      refine G.iload_n (pc' := 58) d_Clo_follow_57 rfl rfl ?_
      refine G.iload_n (pc' := 59) d_Clo_follow_58 rfl rfl ?_
      refine G.callVv (As := [vi ((l1 - 100) / 2), vi (l1 - l1 / 2 * 2), vi (s 24 (ix l1))]) (n := 3) (i := 23) (ci := 6) (st := []) (t_Clo_followOn_23 ((l1 - 100) / 2) (l1 - l1 / 2 * 2) (s 24 (ix l1)) s _) (pc' := 62) d_Clo_follow_59 rfl lm_Clo_52 mk_Clo_followOn mv_Clo_followOn ⟨rfl, rfl⟩ ⟨by decide, by decide⟩ (HX_23 _ _) rfl rfl rfl rfl ⟨Nat.le_refl _, Nat.le_refl _⟩ rfl (fun v1 s1 => ?_)
      exact G.vret d_Clo_follow_62 rfl ⟨Nat.le_refl _, Nat.le_refl _⟩
    · refine G.aload_n (pc' := 36) d_Clo_follow_35 rfl rfl ?_
      refine G.iload_n (pc' := 37) d_Clo_follow_36 rfl rfl ?_
      refine G.bipush (v := 20) (pc' := 39) d_Clo_follow_37 rfl kB_20 ?_
      refine G.isub (pc' := 40) d_Clo_follow_39 rfl ?_
      refine G.iconst (v := 2) (pc' := 41) d_Clo_follow_40 rfl kI_2 ?_
      refine G.idivK (by decide) (pc' := 42) d_Clo_follow_41 rfl ?_
      refine G.iload_n (pc' := 43) d_Clo_follow_42 rfl rfl ?_
      refine G.iload_n (pc' := 44) d_Clo_follow_43 rfl rfl ?_
      refine G.callVv (As := [vi ((l1 - 20) / 2), vi (l1 - l1 / 2 * 2), vi (s 24 (ix l1))]) (n := 3) (i := 23) (ci := 6) (st := []) (t_Clo_followLive_23 ((l1 - 20) / 2) (l1 - l1 / 2 * 2) (s 24 (ix l1)) s _) (pc' := 47) d_Clo_follow_44 rfl lm_Clo_49 mk_Clo_followLive mv_Clo_followLive ⟨rfl, rfl⟩ ⟨by decide, by decide⟩ (HX_23 _ _) rfl rfl rfl rfl ⟨Nat.le_refl _, Nat.le_refl _⟩ rfl (fun v2 s2 => ?_)
      refine G.goto (tgt := 62) d_Clo_follow_47 (by decide) ?_
      exact G.vret d_Clo_follow_62 rfl ⟨Nat.le_refl _, Nat.le_refl _⟩
  · refine G.aload_n (pc' := 18) d_Clo_follow_17 rfl rfl ?_
    refine G.iload_n (pc' := 19) d_Clo_follow_18 rfl rfl ?_
    refine G.iconst (v := 2) (pc' := 20) d_Clo_follow_19 rfl kI_2 ?_
    refine G.idivK (by decide) (pc' := 21) d_Clo_follow_20 rfl ?_
    refine G.iload_n (pc' := 22) d_Clo_follow_21 rfl rfl ?_
    refine G.iload_n (pc' := 23) d_Clo_follow_22 rfl rfl ?_
    refine G.callVv (As := [vi (l1 / 2), vi (l1 - l1 / 2 * 2), vi (s 24 (ix l1))]) (n := 3) (i := 23) (ci := 6) (st := []) (t_Clo_followThere_23 (l1 / 2) (l1 - l1 / 2 * 2) (s 24 (ix l1)) s _) (pc' := 26) d_Clo_follow_23 rfl lm_Clo_46 mk_Clo_followThere mv_Clo_followThere ⟨rfl, rfl⟩ ⟨by decide, by decide⟩ (HX_23 _ _) rfl rfl rfl rfl ⟨Nat.le_refl _, Nat.le_refl _⟩ rfl (fun v3 s3 => ?_)
    refine G.goto (tgt := 62) d_Clo_follow_26 (by decide) ?_
    exact G.vret d_Clo_follow_62 rfl ⟨Nat.le_refl _, Nat.le_refl _⟩
theorem t_Clo_follow_26 (l1 : Int32) (s : Sg) (R : List AC) : Ct q_Clo_follow [vr 26, vi l1] s R (f_Clo_follow 26 l1 s) := by
  refine Ct.of (by decide) rfl (ρ := [some (vr 26), some (vi l1), none, none]) rfl ?_
  unfold f_Clo_follow
  refine G.iload_n (pc' := 1) d_Clo_follow_0 rfl rfl ?_
  refine G.iconst (v := 2) (pc' := 2) d_Clo_follow_1 rfl kI_2 ?_
  refine G.iremK (by decide) (pc' := 3) d_Clo_follow_2 rfl ?_
  refine G.istore_n (ρ' := [some (vr 26), some (vi l1), some (vi (l1 - l1 / 2 * 2)), none]) (pc' := 4) d_Clo_follow_3 rfl (by decide) rfl ?_
  refine G.aload_n (pc' := 5) d_Clo_follow_4 rfl rfl ?_
  refine G.get (pc' := 8) d_Clo_follow_5 rfl fg_Clo_9 (HX_26 _ _) rfl ?_
  refine G.iload_n (pc' := 9) d_Clo_follow_8 rfl rfl ?_
  refine G.iald (pc' := 10) d_Clo_follow_9 rfl (HX_27 _ _) ?_
  refine G.istore_n (ρ' := [some (vr 26), some (vi l1), some (vi (l1 - l1 / 2 * 2)), some (vi (s 27 (ix l1)))]) (pc' := 11) d_Clo_follow_10 rfl (by decide) rfl ?_
  refine G.iload_n (pc' := 12) d_Clo_follow_11 rfl rfl ?_
  refine G.bipush (v := 20) (pc' := 14) d_Clo_follow_12 rfl kB_20 ?_
  refine G.icmp_ge (pc' := 17) (tgt := 29) d_Clo_follow_14 rfl (by decide) ?_ ?_
  · refine G.iload_n (pc' := 30) d_Clo_follow_29 rfl rfl ?_
    refine G.bipush (v := 100) (pc' := 32) d_Clo_follow_30 rfl kB_100 ?_
    refine G.icmp_ge (pc' := 35) (tgt := 50) d_Clo_follow_32 rfl (by decide) ?_ ?_
    · refine G.aload_n (pc' := 51) d_Clo_follow_50 rfl rfl ?_
      refine G.iload_n (pc' := 52) d_Clo_follow_51 rfl rfl ?_
      refine G.bipush (v := 100) (pc' := 54) d_Clo_follow_52 rfl kB_100 ?_
      refine G.isub (pc' := 55) d_Clo_follow_54 rfl ?_
      refine G.iconst (v := 2) (pc' := 56) d_Clo_follow_55 rfl kI_2 ?_
      refine G.idivK (by decide) (pc' := 57) d_Clo_follow_56 rfl ?_
      refine G.iload_n (pc' := 58) d_Clo_follow_57 rfl rfl ?_
      refine G.iload_n (pc' := 59) d_Clo_follow_58 rfl rfl ?_
      refine G.callVv (As := [vi ((l1 - 100) / 2), vi (l1 - l1 / 2 * 2), vi (s 27 (ix l1))]) (n := 3) (i := 26) (ci := 6) (st := []) (t_Clo_followOn_26 ((l1 - 100) / 2) (l1 - l1 / 2 * 2) (s 27 (ix l1)) s _) (pc' := 62) d_Clo_follow_59 rfl lm_Clo_52 mk_Clo_followOn mv_Clo_followOn ⟨rfl, rfl⟩ ⟨by decide, by decide⟩ (HX_26 _ _) rfl rfl rfl rfl ⟨Nat.le_refl _, Nat.le_refl _⟩ rfl (fun v1 s1 => ?_)
      exact G.vret d_Clo_follow_62 rfl ⟨Nat.le_refl _, Nat.le_refl _⟩
    · refine G.aload_n (pc' := 36) d_Clo_follow_35 rfl rfl ?_
      refine G.iload_n (pc' := 37) d_Clo_follow_36 rfl rfl ?_
      refine G.bipush (v := 20) (pc' := 39) d_Clo_follow_37 rfl kB_20 ?_
      refine G.isub (pc' := 40) d_Clo_follow_39 rfl ?_
      refine G.iconst (v := 2) (pc' := 41) d_Clo_follow_40 rfl kI_2 ?_
      refine G.idivK (by decide) (pc' := 42) d_Clo_follow_41 rfl ?_
      refine G.iload_n (pc' := 43) d_Clo_follow_42 rfl rfl ?_
      refine G.iload_n (pc' := 44) d_Clo_follow_43 rfl rfl ?_
      refine G.callVv (As := [vi ((l1 - 20) / 2), vi (l1 - l1 / 2 * 2), vi (s 27 (ix l1))]) (n := 3) (i := 26) (ci := 6) (st := []) (t_Clo_followLive_26 ((l1 - 20) / 2) (l1 - l1 / 2 * 2) (s 27 (ix l1)) s _) (pc' := 47) d_Clo_follow_44 rfl lm_Clo_49 mk_Clo_followLive mv_Clo_followLive ⟨rfl, rfl⟩ ⟨by decide, by decide⟩ (HX_26 _ _) rfl rfl rfl rfl ⟨Nat.le_refl _, Nat.le_refl _⟩ rfl (fun v2 s2 => ?_)
      refine G.goto (tgt := 62) d_Clo_follow_47 (by decide) ?_
      exact G.vret d_Clo_follow_62 rfl ⟨Nat.le_refl _, Nat.le_refl _⟩
  · refine G.aload_n (pc' := 18) d_Clo_follow_17 rfl rfl ?_
    refine G.iload_n (pc' := 19) d_Clo_follow_18 rfl rfl ?_
    refine G.iconst (v := 2) (pc' := 20) d_Clo_follow_19 rfl kI_2 ?_
    refine G.idivK (by decide) (pc' := 21) d_Clo_follow_20 rfl ?_
    refine G.iload_n (pc' := 22) d_Clo_follow_21 rfl rfl ?_
    refine G.iload_n (pc' := 23) d_Clo_follow_22 rfl rfl ?_
    refine G.callVv (As := [vi (l1 / 2), vi (l1 - l1 / 2 * 2), vi (s 27 (ix l1))]) (n := 3) (i := 26) (ci := 6) (st := []) (t_Clo_followThere_26 (l1 / 2) (l1 - l1 / 2 * 2) (s 27 (ix l1)) s _) (pc' := 26) d_Clo_follow_23 rfl lm_Clo_46 mk_Clo_followThere mv_Clo_followThere ⟨rfl, rfl⟩ ⟨by decide, by decide⟩ (HX_26 _ _) rfl rfl rfl rfl ⟨Nat.le_refl _, Nat.le_refl _⟩ rfl (fun v3 s3 => ?_)
    refine G.goto (tgt := 62) d_Clo_follow_26 (by decide) ?_
    exact G.vret d_Clo_follow_62 rfl ⟨Nat.le_refl _, Nat.le_refl _⟩
theorem t_Clo_close_23_69 {R : List AC}  : ∀ (l1 : Int32) (s : Sg), Gd q_Clo_close none 69 [some (vr 23), some (vi l1)] [] s R 0 0 (f_Clo_close_69 23 l1 s) := by
  intro l1 s
  unfold f_Clo_close_69
  refine G.loop1 (rf := fun l1 => [some (vr 23), some (vi l1)]) ?_ 4096 l1 s
  intro rec69 hrec69 l1 s
  refine G.iload_n (pc' := 70) d_Clo_close_69 rfl rfl ?_
  refine G.aload_n (pc' := 71) d_Clo_close_70 rfl rfl ?_
  refine G.get (pc' := 74) d_Clo_close_71 rfl fg_Clo_18 (HX_23 _ _) rfl ?_
  refine G.icmp_ge (pc' := 77) (tgt := 100) d_Clo_close_74 rfl (by decide) ?_ ?_
  · exact G.vret d_Clo_close_100 rfl ⟨Nat.le_refl _, Nat.le_refl _⟩
  · refine G.iload_n (pc' := 78) d_Clo_close_77 rfl rfl ?_
    refine G.sipush (v := 220) (pc' := 81) d_Clo_close_78 rfl kS_220 ?_
    refine G.icmp_ge (pc' := 84) (tgt := 100) d_Clo_close_81 rfl (by decide) ?_ ?_
    · exact G.vret d_Clo_close_100 rfl ⟨Nat.le_refl _, Nat.le_refl _⟩
    · refine G.aload_n (pc' := 85) d_Clo_close_84 rfl rfl ?_
      refine G.aload_n (pc' := 86) d_Clo_close_85 rfl rfl ?_
      refine G.get (pc' := 89) d_Clo_close_86 rfl fg_Clo_15 (HX_23 _ _) rfl ?_
      refine G.iload_n (pc' := 90) d_Clo_close_89 rfl rfl ?_
      refine G.iald (pc' := 91) d_Clo_close_90 rfl (HX_25 _ _) ?_
      refine G.callVv (As := [vi (s 25 (ix l1))]) (n := 1) (i := 23) (ci := 6) (st := []) (t_Clo_follow_23 (s 25 (ix l1)) s _) (pc' := 94) d_Clo_close_91 rfl lm_Clo_42 mk_Clo_follow mv_Clo_follow ⟨rfl, rfl⟩ ⟨by decide, by decide⟩ (HX_23 _ _) rfl rfl rfl rfl ⟨Nat.le_refl _, Nat.le_refl _⟩ rfl (fun v1 s1 => ?_)
      refine G.iinc (w := 1) (v := l1 + 1) (ρ' := [some (vr 23), some (vi (l1 + 1))]) (pc' := 97) d_Clo_close_94 rfl rfl (by decide) kI_1 rfl rfl ?_
      refine G.goto (tgt := 69) d_Clo_close_97 (by decide) ?_
      exact hrec69 (l1 + 1) s1
theorem t_Clo_close_23_29 {R : List AC}  : ∀ (l1 : Int32) (s : Sg), Gd q_Clo_close none 29 [some (vr 23), some (vi l1)] [] s R 0 0 (f_Clo_close_29 23 l1 s) := by
  intro l1 s
  unfold f_Clo_close_29
  refine G.loop1 (rf := fun l1 => [some (vr 23), some (vi l1)]) ?_ 4096 l1 s
  intro rec29 hrec29 l1 s
  refine G.iload_n (pc' := 30) d_Clo_close_29 rfl rfl ?_
  refine G.aload_n (pc' := 31) d_Clo_close_30 rfl rfl ?_
  refine G.get (pc' := 34) d_Clo_close_31 rfl fg_Clo_22 (HX_23 _ _) rfl ?_
  refine G.get (pc' := 37) d_Clo_close_34 rfl fg_Clo_26 (HX_21 _ _) rfl ?_
  refine G.icmp_ge (pc' := 40) (tgt := 67) d_Clo_close_37 rfl (by decide) ?_ ?_
  · refine G.iconst (v := 0) (pc' := 68) d_Clo_close_67 rfl kI_0 ?_
    refine G.istore_n (ρ' := [some (vr 23), some (vi 0)]) (pc' := 69) d_Clo_close_68 rfl (by decide) rfl ?_
    exact t_Clo_close_23_69 0 s
  · refine G.aload_n (pc' := 41) d_Clo_close_40 rfl rfl ?_
    refine G.get (pc' := 44) d_Clo_close_41 rfl fg_Clo_22 (HX_23 _ _) rfl ?_
    refine G.get (pc' := 47) d_Clo_close_44 rfl fg_Clo_31 (HX_21 _ _) rfl ?_
    refine G.iload_n (pc' := 48) d_Clo_close_47 rfl rfl ?_
    refine G.callSi (As := [vi (s 21 5), vi l1]) (n := 2) (st := []) (t_FU_bit (s 21 5) l1 s _) (pc' := 51) d_Clo_close_48 rfl lm_Clo_34 mk_FU_bit sx_FU_bit ⟨rfl, rfl⟩ ⟨by decide, by decide⟩ rfl rfl rfl ⟨Nat.le_refl _, Nat.le_refl _⟩ rfl (fun v1 s1 => ?_)
    refine G.if_eq (pc' := 54) (tgt := 61) d_Clo_close_51 rfl (by decide) ?_ ?_
    · refine G.iinc (w := 1) (v := l1 + 1) (ρ' := [some (vr 23), some (vi (l1 + 1))]) (pc' := 64) d_Clo_close_61 rfl rfl (by decide) kI_1 rfl rfl ?_
      refine G.goto (tgt := 29) d_Clo_close_64 (by decide) ?_
      exact hrec29 (l1 + 1) s1
    · refine G.aload_n (pc' := 55) d_Clo_close_54 rfl rfl ?_
      refine G.iload_n (pc' := 56) d_Clo_close_55 rfl rfl ?_
      refine G.iconst (v := 0) (pc' := 57) d_Clo_close_56 rfl kI_0 ?_
      refine G.iconst (v := 1) (pc' := 58) d_Clo_close_57 rfl kI_1 ?_
      refine G.callVv (As := [vi l1, vi 0, vi 1]) (n := 3) (i := 23) (ci := 6) (st := []) (t_Clo_bringThere_23 l1 0 1 s1 _) (pc' := 61) d_Clo_close_58 rfl lm_Clo_38 mk_Clo_bringThere mv_Clo_bringThere ⟨rfl, rfl⟩ ⟨by decide, by decide⟩ (HX_23 _ _) rfl rfl rfl rfl ⟨Nat.le_refl _, Nat.le_refl _⟩ rfl (fun v2 s2 => ?_)
      refine G.iinc (w := 1) (v := l1 + 1) (ρ' := [some (vr 23), some (vi (l1 + 1))]) (pc' := 64) d_Clo_close_61 rfl rfl (by decide) kI_1 rfl rfl ?_
      refine G.goto (tgt := 29) d_Clo_close_64 (by decide) ?_
      exact hrec29 (l1 + 1) s2
theorem t_Clo_close_23_2 {R : List AC}  : ∀ (l1 : Int32) (s : Sg), Gd q_Clo_close none 2 [some (vr 23), some (vi l1)] [] s R 0 0 (f_Clo_close_2 23 l1 s) := by
  intro l1 s
  unfold f_Clo_close_2
  refine G.loop1 (rf := fun l1 => [some (vr 23), some (vi l1)]) ?_ 4096 l1 s
  intro rec2 hrec2 l1 s
  refine G.iload_n (pc' := 3) d_Clo_close_2 rfl rfl ?_
  refine G.sipush (v := 220) (pc' := 6) d_Clo_close_3 rfl kS_220 ?_
  refine G.icmp_ge (pc' := 9) (tgt := 22) d_Clo_close_6 rfl (by decide) ?_ ?_
  · refine G.aload_n (pc' := 23) d_Clo_close_22 rfl rfl ?_
    refine G.iconst (v := 0) (pc' := 24) d_Clo_close_23 rfl kI_0 ?_
    refine G.put (s' := wr s 23 3 0) (pc' := 27) d_Clo_close_24 rfl fp_Clo_18 trivial (HX_23 _ _) rfl (HXf_23_3 _ _ _) ?_
    refine G.iconst (v := 0) (pc' := 28) d_Clo_close_27 rfl kI_0 ?_
    refine G.istore_n (ρ' := [some (vr 23), some (vi 0)]) (pc' := 29) d_Clo_close_28 rfl (by decide) rfl ?_
    exact t_Clo_close_23_29 0 (wr s 23 3 0)
  · refine G.aload_n (pc' := 10) d_Clo_close_9 rfl rfl ?_
    refine G.get (pc' := 13) d_Clo_close_10 rfl fg_Clo_9 (HX_23 _ _) rfl ?_
    refine G.iload_n (pc' := 14) d_Clo_close_13 rfl rfl ?_
    refine G.iconst (v := 0) (pc' := 15) d_Clo_close_14 rfl kI_0 ?_
    refine G.iast (s' := wr s 24 (ix l1) 0) (pc' := 16) d_Clo_close_15 rfl (HX_24 _ _) (HXa_24 _ _ _ _) ?_
    refine G.iinc (w := 1) (v := l1 + 1) (ρ' := [some (vr 23), some (vi (l1 + 1))]) (pc' := 19) d_Clo_close_16 rfl rfl (by decide) kI_1 rfl rfl ?_
    refine G.goto (tgt := 2) d_Clo_close_19 (by decide) ?_
    exact hrec2 (l1 + 1) (wr s 24 (ix l1) 0)
theorem t_Clo_close_23 (s : Sg) (R : List AC) : Ct q_Clo_close [vr 23] s R (f_Clo_close 23 s) := by
  refine Ct.of (by decide) rfl (ρ := [some (vr 23), none]) rfl ?_
  unfold f_Clo_close
  refine G.iconst (v := 0) (pc' := 1) d_Clo_close_0 rfl kI_0 ?_
  refine G.istore_n (ρ' := [some (vr 23), some (vi 0)]) (pc' := 2) d_Clo_close_1 rfl (by decide) rfl ?_
  exact t_Clo_close_23_2 0 s
theorem t_Clo_close_26_69 {R : List AC}  : ∀ (l1 : Int32) (s : Sg), Gd q_Clo_close none 69 [some (vr 26), some (vi l1)] [] s R 0 0 (f_Clo_close_69 26 l1 s) := by
  intro l1 s
  unfold f_Clo_close_69
  refine G.loop1 (rf := fun l1 => [some (vr 26), some (vi l1)]) ?_ 4096 l1 s
  intro rec69 hrec69 l1 s
  refine G.iload_n (pc' := 70) d_Clo_close_69 rfl rfl ?_
  refine G.aload_n (pc' := 71) d_Clo_close_70 rfl rfl ?_
  refine G.get (pc' := 74) d_Clo_close_71 rfl fg_Clo_18 (HX_26 _ _) rfl ?_
  refine G.icmp_ge (pc' := 77) (tgt := 100) d_Clo_close_74 rfl (by decide) ?_ ?_
  · exact G.vret d_Clo_close_100 rfl ⟨Nat.le_refl _, Nat.le_refl _⟩
  · refine G.iload_n (pc' := 78) d_Clo_close_77 rfl rfl ?_
    refine G.sipush (v := 220) (pc' := 81) d_Clo_close_78 rfl kS_220 ?_
    refine G.icmp_ge (pc' := 84) (tgt := 100) d_Clo_close_81 rfl (by decide) ?_ ?_
    · exact G.vret d_Clo_close_100 rfl ⟨Nat.le_refl _, Nat.le_refl _⟩
    · refine G.aload_n (pc' := 85) d_Clo_close_84 rfl rfl ?_
      refine G.aload_n (pc' := 86) d_Clo_close_85 rfl rfl ?_
      refine G.get (pc' := 89) d_Clo_close_86 rfl fg_Clo_15 (HX_26 _ _) rfl ?_
      refine G.iload_n (pc' := 90) d_Clo_close_89 rfl rfl ?_
      refine G.iald (pc' := 91) d_Clo_close_90 rfl (HX_28 _ _) ?_
      refine G.callVv (As := [vi (s 28 (ix l1))]) (n := 1) (i := 26) (ci := 6) (st := []) (t_Clo_follow_26 (s 28 (ix l1)) s _) (pc' := 94) d_Clo_close_91 rfl lm_Clo_42 mk_Clo_follow mv_Clo_follow ⟨rfl, rfl⟩ ⟨by decide, by decide⟩ (HX_26 _ _) rfl rfl rfl rfl ⟨Nat.le_refl _, Nat.le_refl _⟩ rfl (fun v1 s1 => ?_)
      refine G.iinc (w := 1) (v := l1 + 1) (ρ' := [some (vr 26), some (vi (l1 + 1))]) (pc' := 97) d_Clo_close_94 rfl rfl (by decide) kI_1 rfl rfl ?_
      refine G.goto (tgt := 69) d_Clo_close_97 (by decide) ?_
      exact hrec69 (l1 + 1) s1
theorem t_Clo_close_26_29 {R : List AC}  : ∀ (l1 : Int32) (s : Sg), Gd q_Clo_close none 29 [some (vr 26), some (vi l1)] [] s R 0 0 (f_Clo_close_29 26 l1 s) := by
  intro l1 s
  unfold f_Clo_close_29
  refine G.loop1 (rf := fun l1 => [some (vr 26), some (vi l1)]) ?_ 4096 l1 s
  intro rec29 hrec29 l1 s
  refine G.iload_n (pc' := 30) d_Clo_close_29 rfl rfl ?_
  refine G.aload_n (pc' := 31) d_Clo_close_30 rfl rfl ?_
  refine G.get (pc' := 34) d_Clo_close_31 rfl fg_Clo_22 (HX_26 _ _) rfl ?_
  refine G.get (pc' := 37) d_Clo_close_34 rfl fg_Clo_26 (HX_21 _ _) rfl ?_
  refine G.icmp_ge (pc' := 40) (tgt := 67) d_Clo_close_37 rfl (by decide) ?_ ?_
  · refine G.iconst (v := 0) (pc' := 68) d_Clo_close_67 rfl kI_0 ?_
    refine G.istore_n (ρ' := [some (vr 26), some (vi 0)]) (pc' := 69) d_Clo_close_68 rfl (by decide) rfl ?_
    exact t_Clo_close_26_69 0 s
  · refine G.aload_n (pc' := 41) d_Clo_close_40 rfl rfl ?_
    refine G.get (pc' := 44) d_Clo_close_41 rfl fg_Clo_22 (HX_26 _ _) rfl ?_
    refine G.get (pc' := 47) d_Clo_close_44 rfl fg_Clo_31 (HX_21 _ _) rfl ?_
    refine G.iload_n (pc' := 48) d_Clo_close_47 rfl rfl ?_
    refine G.callSi (As := [vi (s 21 5), vi l1]) (n := 2) (st := []) (t_FU_bit (s 21 5) l1 s _) (pc' := 51) d_Clo_close_48 rfl lm_Clo_34 mk_FU_bit sx_FU_bit ⟨rfl, rfl⟩ ⟨by decide, by decide⟩ rfl rfl rfl ⟨Nat.le_refl _, Nat.le_refl _⟩ rfl (fun v1 s1 => ?_)
    refine G.if_eq (pc' := 54) (tgt := 61) d_Clo_close_51 rfl (by decide) ?_ ?_
    · refine G.iinc (w := 1) (v := l1 + 1) (ρ' := [some (vr 26), some (vi (l1 + 1))]) (pc' := 64) d_Clo_close_61 rfl rfl (by decide) kI_1 rfl rfl ?_
      refine G.goto (tgt := 29) d_Clo_close_64 (by decide) ?_
      exact hrec29 (l1 + 1) s1
    · refine G.aload_n (pc' := 55) d_Clo_close_54 rfl rfl ?_
      refine G.iload_n (pc' := 56) d_Clo_close_55 rfl rfl ?_
      refine G.iconst (v := 0) (pc' := 57) d_Clo_close_56 rfl kI_0 ?_
      refine G.iconst (v := 1) (pc' := 58) d_Clo_close_57 rfl kI_1 ?_
      refine G.callVv (As := [vi l1, vi 0, vi 1]) (n := 3) (i := 26) (ci := 6) (st := []) (t_Clo_bringThere_26 l1 0 1 s1 _) (pc' := 61) d_Clo_close_58 rfl lm_Clo_38 mk_Clo_bringThere mv_Clo_bringThere ⟨rfl, rfl⟩ ⟨by decide, by decide⟩ (HX_26 _ _) rfl rfl rfl rfl ⟨Nat.le_refl _, Nat.le_refl _⟩ rfl (fun v2 s2 => ?_)
      refine G.iinc (w := 1) (v := l1 + 1) (ρ' := [some (vr 26), some (vi (l1 + 1))]) (pc' := 64) d_Clo_close_61 rfl rfl (by decide) kI_1 rfl rfl ?_
      refine G.goto (tgt := 29) d_Clo_close_64 (by decide) ?_
      exact hrec29 (l1 + 1) s2
theorem t_Clo_close_26_2 {R : List AC}  : ∀ (l1 : Int32) (s : Sg), Gd q_Clo_close none 2 [some (vr 26), some (vi l1)] [] s R 0 0 (f_Clo_close_2 26 l1 s) := by
  intro l1 s
  unfold f_Clo_close_2
  refine G.loop1 (rf := fun l1 => [some (vr 26), some (vi l1)]) ?_ 4096 l1 s
  intro rec2 hrec2 l1 s
  refine G.iload_n (pc' := 3) d_Clo_close_2 rfl rfl ?_
  refine G.sipush (v := 220) (pc' := 6) d_Clo_close_3 rfl kS_220 ?_
  refine G.icmp_ge (pc' := 9) (tgt := 22) d_Clo_close_6 rfl (by decide) ?_ ?_
  · refine G.aload_n (pc' := 23) d_Clo_close_22 rfl rfl ?_
    refine G.iconst (v := 0) (pc' := 24) d_Clo_close_23 rfl kI_0 ?_
    refine G.put (s' := wr s 26 3 0) (pc' := 27) d_Clo_close_24 rfl fp_Clo_18 trivial (HX_26 _ _) rfl (HXf_26_3 _ _ _) ?_
    refine G.iconst (v := 0) (pc' := 28) d_Clo_close_27 rfl kI_0 ?_
    refine G.istore_n (ρ' := [some (vr 26), some (vi 0)]) (pc' := 29) d_Clo_close_28 rfl (by decide) rfl ?_
    exact t_Clo_close_26_29 0 (wr s 26 3 0)
  · refine G.aload_n (pc' := 10) d_Clo_close_9 rfl rfl ?_
    refine G.get (pc' := 13) d_Clo_close_10 rfl fg_Clo_9 (HX_26 _ _) rfl ?_
    refine G.iload_n (pc' := 14) d_Clo_close_13 rfl rfl ?_
    refine G.iconst (v := 0) (pc' := 15) d_Clo_close_14 rfl kI_0 ?_
    refine G.iast (s' := wr s 27 (ix l1) 0) (pc' := 16) d_Clo_close_15 rfl (HX_27 _ _) (HXa_27 _ _ _ _) ?_
    refine G.iinc (w := 1) (v := l1 + 1) (ρ' := [some (vr 26), some (vi (l1 + 1))]) (pc' := 19) d_Clo_close_16 rfl rfl (by decide) kI_1 rfl rfl ?_
    refine G.goto (tgt := 2) d_Clo_close_19 (by decide) ?_
    exact hrec2 (l1 + 1) (wr s 27 (ix l1) 0)
theorem t_Clo_close_26 (s : Sg) (R : List AC) : Ct q_Clo_close [vr 26] s R (f_Clo_close 26 s) := by
  refine Ct.of (by decide) rfl (ρ := [some (vr 26), none]) rfl ?_
  unfold f_Clo_close
  refine G.iconst (v := 0) (pc' := 1) d_Clo_close_0 rfl kI_0 ?_
  refine G.istore_n (ρ' := [some (vr 26), some (vi 0)]) (pc' := 2) d_Clo_close_1 rfl (by decide) rfl ?_
  exact t_Clo_close_26_2 0 s
theorem t_Clo_greatestStage_23 (s : Sg) (R : List AC) : Ct q_Clo_greatestStage [vr 23] s R (f_Clo_greatestStage 23 s) := by
  refine Ct.of (by decide) rfl (ρ := [some (vr 23)]) rfl ?_
  unfold f_Clo_greatestStage
  refine G.aload_n (pc' := 1) d_Clo_greatestStage_0 rfl rfl ?_
  refine G.get (pc' := 4) d_Clo_greatestStage_1 rfl fg_Clo_18 (HX_23 _ _) rfl ?_
  refine G.if_ne (pc' := 7) (tgt := 11) d_Clo_greatestStage_4 rfl (by decide) ?_ ?_
  · refine G.iconst (v := 0) (pc' := 8) d_Clo_greatestStage_7 rfl kI_0 ?_
    refine G.goto (tgt := 27) d_Clo_greatestStage_8 (by decide) ?_
    exact G.iret d_Clo_greatestStage_27 rfl ⟨Nat.le_refl _, Nat.le_refl _⟩
  · refine G.aload_n (pc' := 12) d_Clo_greatestStage_11 rfl rfl ?_
    refine G.get (pc' := 15) d_Clo_greatestStage_12 rfl fg_Clo_9 (HX_23 _ _) rfl ?_
    refine G.aload_n (pc' := 16) d_Clo_greatestStage_15 rfl rfl ?_
    refine G.get (pc' := 19) d_Clo_greatestStage_16 rfl fg_Clo_15 (HX_23 _ _) rfl ?_
    refine G.aload_n (pc' := 20) d_Clo_greatestStage_19 rfl rfl ?_
    refine G.get (pc' := 23) d_Clo_greatestStage_20 rfl fg_Clo_18 (HX_23 _ _) rfl ?_
    refine G.iconst (v := 1) (pc' := 24) d_Clo_greatestStage_23 rfl kI_1 ?_
    refine G.isub (pc' := 25) d_Clo_greatestStage_24 rfl ?_
    refine G.iald (pc' := 26) d_Clo_greatestStage_25 rfl (HX_25 _ _) ?_
    refine G.iald (pc' := 27) d_Clo_greatestStage_26 rfl (HX_24 _ _) ?_
    exact G.iret d_Clo_greatestStage_27 rfl ⟨Nat.le_refl _, Nat.le_refl _⟩
theorem t_Clo_greatestStage_26 (s : Sg) (R : List AC) : Ct q_Clo_greatestStage [vr 26] s R (f_Clo_greatestStage 26 s) := by
  refine Ct.of (by decide) rfl (ρ := [some (vr 26)]) rfl ?_
  unfold f_Clo_greatestStage
  refine G.aload_n (pc' := 1) d_Clo_greatestStage_0 rfl rfl ?_
  refine G.get (pc' := 4) d_Clo_greatestStage_1 rfl fg_Clo_18 (HX_26 _ _) rfl ?_
  refine G.if_ne (pc' := 7) (tgt := 11) d_Clo_greatestStage_4 rfl (by decide) ?_ ?_
  · refine G.iconst (v := 0) (pc' := 8) d_Clo_greatestStage_7 rfl kI_0 ?_
    refine G.goto (tgt := 27) d_Clo_greatestStage_8 (by decide) ?_
    exact G.iret d_Clo_greatestStage_27 rfl ⟨Nat.le_refl _, Nat.le_refl _⟩
  · refine G.aload_n (pc' := 12) d_Clo_greatestStage_11 rfl rfl ?_
    refine G.get (pc' := 15) d_Clo_greatestStage_12 rfl fg_Clo_9 (HX_26 _ _) rfl ?_
    refine G.aload_n (pc' := 16) d_Clo_greatestStage_15 rfl rfl ?_
    refine G.get (pc' := 19) d_Clo_greatestStage_16 rfl fg_Clo_15 (HX_26 _ _) rfl ?_
    refine G.aload_n (pc' := 20) d_Clo_greatestStage_19 rfl rfl ?_
    refine G.get (pc' := 23) d_Clo_greatestStage_20 rfl fg_Clo_18 (HX_26 _ _) rfl ?_
    refine G.iconst (v := 1) (pc' := 24) d_Clo_greatestStage_23 rfl kI_1 ?_
    refine G.isub (pc' := 25) d_Clo_greatestStage_24 rfl ?_
    refine G.iald (pc' := 26) d_Clo_greatestStage_25 rfl (HX_28 _ _) ?_
    refine G.iald (pc' := 27) d_Clo_greatestStage_26 rfl (HX_27 _ _) ?_
    exact G.iret d_Clo_greatestStage_27 rfl ⟨Nat.le_refl _, Nat.le_refl _⟩
