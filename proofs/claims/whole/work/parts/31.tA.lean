theorem t_Packs_add (l1 : Int32) (s : Sg) (R : List AC) : Ct q_Packs_add [vr 1, vi l1] s R (f_Packs_add l1 s) := by
  refine Ct.of (by decide) rfl (ρ := [some (vr 1), some (vi l1)]) rfl ?_
  unfold f_Packs_add
  refine G.aload_n (pc' := 1) d_Packs_add_0 rfl rfl ?_
  refine G.get (pc' := 4) d_Packs_add_1 rfl fg_Packs_21 (HX_1 _ _) rfl ?_
  refine G.aload_n (pc' := 5) d_Packs_add_4 rfl rfl ?_
  refine G.get (pc' := 8) d_Packs_add_5 rfl fg_Packs_9 (HX_1 _ _) rfl ?_
  refine G.iload_n (pc' := 9) d_Packs_add_8 rfl rfl ?_
  refine G.zast (s' := wr s 2 (ix (s 1 0)) l1) (pc' := 10) d_Packs_add_9 rfl (HX_2 _ _) (HXa_2 _ _ _ _) ?_
  refine G.aload_n (pc' := 11) d_Packs_add_10 rfl rfl ?_
  refine G.dup (pc' := 12) d_Packs_add_11 rfl ?_
  refine G.get (pc' := 15) d_Packs_add_12 rfl fg_Packs_9 (HX_1 _ _) rfl ?_
  refine G.eqv (w := vi (s 1 0)) rfl ?_
  refine G.iconst (v := 1) (pc' := 16) d_Packs_add_15 rfl kI_1 ?_
  refine G.iadd (pc' := 17) d_Packs_add_16 rfl ?_
  refine G.put (s' := wr (wr s 2 (ix (s 1 0)) l1) 1 0 ((s 1 0) + 1)) (pc' := 20) d_Packs_add_17 rfl fp_Packs_9 trivial (HX_1 _ _) rfl (HXf_1_0 _ _ _) ?_
  refine G.aload_n (pc' := 21) d_Packs_add_20 rfl rfl ?_
  refine G.get (pc' := 24) d_Packs_add_21 rfl fg_Packs_9 (HX_1 _ _) rfl ?_
  refine G.eqv (w := vi ((s 1 0) + 1)) rfl ?_
  refine G.iconst (v := 1) (pc' := 25) d_Packs_add_24 rfl kI_1 ?_
  refine G.isub (pc' := 26) d_Packs_add_25 rfl ?_
  exact G.iret d_Packs_add_26 rfl ⟨Nat.le_refl _, Nat.le_refl _⟩
theorem t_FU_within (l0 l1 : Int32) (s : Sg) (R : List AC) : Ct q_FU_within [vi l0, vi l1] s R (f_FU_within l0 l1 s) := by
  refine Ct.of (by decide) rfl (ρ := [some (vi l0), some (vi l1)]) rfl ?_
  unfold f_FU_within
  refine G.iload_n (pc' := 1) d_FU_within_0 rfl rfl ?_
  refine G.if_lt (pc' := 4) (tgt := 13) d_FU_within_1 rfl (by decide) ?_ ?_
  · refine G.iconst (v := 0) (pc' := 14) d_FU_within_13 rfl kI_0 ?_
    exact G.zretK (by decide) d_FU_within_14 rfl ⟨Nat.le_refl _, Nat.le_refl _⟩
  · refine G.iload_n (pc' := 5) d_FU_within_4 rfl rfl ?_
    refine G.iload_n (pc' := 6) d_FU_within_5 rfl rfl ?_
    refine G.icmp_ge (pc' := 9) (tgt := 13) d_FU_within_6 rfl (by decide) ?_ ?_
    · refine G.iconst (v := 0) (pc' := 14) d_FU_within_13 rfl kI_0 ?_
      exact G.zretK (by decide) d_FU_within_14 rfl ⟨Nat.le_refl _, Nat.le_refl _⟩
    · refine G.iconst (v := 1) (pc' := 10) d_FU_within_9 rfl kI_1 ?_
      refine G.goto (tgt := 14) d_FU_within_10 (by decide) ?_
      exact G.zretK (by decide) d_FU_within_14 rfl ⟨Nat.le_refl _, Nat.le_refl _⟩
theorem t_Packs_has (l1 : Int32) (s : Sg) (R : List AC) : Ct q_Packs_has [vr 1, vi l1] s R (f_Packs_has l1 s) := by
  refine Ct.of (by decide) rfl (ρ := [some (vr 1), some (vi l1)]) rfl ?_
  unfold f_Packs_has
  refine G.iload_n (pc' := 1) d_Packs_has_0 rfl rfl ?_
  refine G.aload_n (pc' := 2) d_Packs_has_1 rfl rfl ?_
  refine G.get (pc' := 5) d_Packs_has_2 rfl fg_Packs_9 (HX_1 _ _) rfl ?_
  refine G.callSi (As := [vi l1, vi (s 1 0)]) (n := 2) (st := []) (t_FU_within l1 (s 1 0) s _) (pc' := 8) d_Packs_has_5 rfl lm_Packs_25 mk_FU_within sx_FU_within ⟨rfl, rfl⟩ ⟨by decide, by decide⟩ rfl rfl rfl ⟨Nat.le_refl _, Nat.le_refl _⟩ rfl (fun v1 s1 => ?_)
  exact G.zret d_Packs_has_8 rfl ⟨Nat.le_refl _, Nat.le_refl _⟩
theorem t_Feats_find_2 {R : List AC}  (l1 l2 : Int32) : ∀ (l3 : Int32) (s : Sg), Gd q_Feats_find none 2 [some (vr 3), some (vi l1), some (vi l2), some (vi l3)] [] s R 0 0 (f_Feats_find_2 l1 l2 l3 s) := by
  intro l3 s
  unfold f_Feats_find_2
  refine G.loop1 (rf := fun l3 => [some (vr 3), some (vi l1), some (vi l2), some (vi l3)]) ?_ 4096 l3 s
  intro rec2 hrec2 l3 s
  refine G.iload_n (pc' := 3) d_Feats_find_2 rfl rfl ?_
  refine G.aload_n (pc' := 4) d_Feats_find_3 rfl rfl ?_
  refine G.get (pc' := 7) d_Feats_find_4 rfl fg_Feats_9 (HX_3 _ _) rfl ?_
  refine G.icmp_ge (pc' := 10) (tgt := 38) d_Feats_find_7 rfl (by decide) ?_ ?_
  · refine G.iconst (v := (-1)) (pc' := 39) d_Feats_find_38 rfl kI_m1 ?_
    exact G.iret d_Feats_find_39 rfl ⟨Nat.le_refl _, Nat.le_refl _⟩
  · refine G.aload_n (pc' := 11) d_Feats_find_10 rfl rfl ?_
    refine G.get (pc' := 14) d_Feats_find_11 rfl fg_Feats_15 (HX_3 _ _) rfl ?_
    refine G.iload_n (pc' := 15) d_Feats_find_14 rfl rfl ?_
    refine G.iald (pc' := 16) d_Feats_find_15 rfl (HX_4 _ _) ?_
    refine G.iload_n (pc' := 17) d_Feats_find_16 rfl rfl ?_
    refine G.icmp_ne (pc' := 20) (tgt := 32) d_Feats_find_17 rfl (by decide) ?_ ?_
    · refine G.aload_n (pc' := 21) d_Feats_find_20 rfl rfl ?_
      refine G.get (pc' := 24) d_Feats_find_21 rfl fg_Feats_19 (HX_3 _ _) rfl ?_
      refine G.iload_n (pc' := 25) d_Feats_find_24 rfl rfl ?_
      refine G.iald (pc' := 26) d_Feats_find_25 rfl (HX_5 _ _) ?_
      refine G.iload_n (pc' := 27) d_Feats_find_26 rfl rfl ?_
      refine G.icmp_ne (pc' := 30) (tgt := 32) d_Feats_find_27 rfl (by decide) ?_ ?_
      · refine G.iload_n (pc' := 31) d_Feats_find_30 rfl rfl ?_
        exact G.iret d_Feats_find_31 rfl ⟨Nat.le_refl _, Nat.le_refl _⟩
      · refine G.iinc (w := 1) (v := l3 + 1) (ρ' := [some (vr 3), some (vi l1), some (vi l2), some (vi (l3 + 1))]) (pc' := 35) d_Feats_find_32 rfl rfl (by decide) kI_1 rfl rfl ?_
        refine G.goto (tgt := 2) d_Feats_find_35 (by decide) ?_
        exact hrec2 (l3 + 1) s
    · refine G.iinc (w := 1) (v := l3 + 1) (ρ' := [some (vr 3), some (vi l1), some (vi l2), some (vi (l3 + 1))]) (pc' := 35) d_Feats_find_32 rfl rfl (by decide) kI_1 rfl rfl ?_
      refine G.goto (tgt := 2) d_Feats_find_35 (by decide) ?_
      exact hrec2 (l3 + 1) s
theorem t_Feats_find (l1 l2 : Int32) (s : Sg) (R : List AC) : Ct q_Feats_find [vr 3, vi l1, vi l2] s R (f_Feats_find l1 l2 s) := by
  refine Ct.of (by decide) rfl (ρ := [some (vr 3), some (vi l1), some (vi l2), none]) rfl ?_
  unfold f_Feats_find
  refine G.iconst (v := 0) (pc' := 1) d_Feats_find_0 rfl kI_0 ?_
  refine G.istore_n (ρ' := [some (vr 3), some (vi l1), some (vi l2), some (vi 0)]) (pc' := 2) d_Feats_find_1 rfl (by decide) rfl ?_
  exact t_Feats_find_2 l1 l2 0 s
theorem t_Feats_countOf_4 {R : List AC}  (l1 : Int32) : ∀ (l2 l3 : Int32) (s : Sg), Gd q_Feats_countOf none 4 [some (vr 3), some (vi l1), some (vi l2), some (vi l3)] [] s R 0 0 (f_Feats_countOf_4 l1 l2 l3 s) := by
  intro l2 l3 s
  unfold f_Feats_countOf_4
  refine G.loop2 (rf := fun l2 l3 => [some (vr 3), some (vi l1), some (vi l2), some (vi l3)]) ?_ 4096 l2 l3 s
  intro rec4 hrec4 l2 l3 s
  refine G.iload_n (pc' := 5) d_Feats_countOf_4 rfl rfl ?_
  refine G.aload_n (pc' := 6) d_Feats_countOf_5 rfl rfl ?_
  refine G.get (pc' := 9) d_Feats_countOf_6 rfl fg_Feats_9 (HX_3 _ _) rfl ?_
  refine G.icmp_ge (pc' := 12) (tgt := 31) d_Feats_countOf_9 rfl (by decide) ?_ ?_
  · refine G.iload_n (pc' := 32) d_Feats_countOf_31 rfl rfl ?_
    exact G.iret d_Feats_countOf_32 rfl ⟨Nat.le_refl _, Nat.le_refl _⟩
  · refine G.aload_n (pc' := 13) d_Feats_countOf_12 rfl rfl ?_
    refine G.get (pc' := 16) d_Feats_countOf_13 rfl fg_Feats_15 (HX_3 _ _) rfl ?_
    refine G.iload_n (pc' := 17) d_Feats_countOf_16 rfl rfl ?_
    refine G.iald (pc' := 18) d_Feats_countOf_17 rfl (HX_4 _ _) ?_
    refine G.iload_n (pc' := 19) d_Feats_countOf_18 rfl rfl ?_
    refine G.icmp_ne (pc' := 22) (tgt := 25) d_Feats_countOf_19 rfl (by decide) ?_ ?_
    · refine G.iinc (w := 1) (v := l2 + 1) (ρ' := [some (vr 3), some (vi l1), some (vi (l2 + 1)), some (vi l3)]) (pc' := 25) d_Feats_countOf_22 rfl rfl (by decide) kI_1 rfl rfl ?_
      refine G.iinc (w := 1) (v := l3 + 1) (ρ' := [some (vr 3), some (vi l1), some (vi (l2 + 1)), some (vi (l3 + 1))]) (pc' := 28) d_Feats_countOf_25 rfl rfl (by decide) kI_1 rfl rfl ?_
      refine G.goto (tgt := 4) d_Feats_countOf_28 (by decide) ?_
      exact hrec4 (l2 + 1) (l3 + 1) s
    · refine G.iinc (w := 1) (v := l3 + 1) (ρ' := [some (vr 3), some (vi l1), some (vi l2), some (vi (l3 + 1))]) (pc' := 28) d_Feats_countOf_25 rfl rfl (by decide) kI_1 rfl rfl ?_
      refine G.goto (tgt := 4) d_Feats_countOf_28 (by decide) ?_
      exact hrec4 l2 (l3 + 1) s
theorem t_Feats_countOf (l1 : Int32) (s : Sg) (R : List AC) : Ct q_Feats_countOf [vr 3, vi l1] s R (f_Feats_countOf l1 s) := by
  refine Ct.of (by decide) rfl (ρ := [some (vr 3), some (vi l1), none, none]) rfl ?_
  unfold f_Feats_countOf
  refine G.iconst (v := 0) (pc' := 1) d_Feats_countOf_0 rfl kI_0 ?_
  refine G.istore_n (ρ' := [some (vr 3), some (vi l1), some (vi 0), none]) (pc' := 2) d_Feats_countOf_1 rfl (by decide) rfl ?_
  refine G.iconst (v := 0) (pc' := 3) d_Feats_countOf_2 rfl kI_0 ?_
  refine G.istore_n (ρ' := [some (vr 3), some (vi l1), some (vi 0), some (vi 0)]) (pc' := 4) d_Feats_countOf_3 rfl (by decide) rfl ?_
  exact t_Feats_countOf_4 l1 0 0 s
theorem t_Feats_add (l1 l2 l3 l4 : Int32) (s : Sg) (R : List AC) : Ct q_Feats_add [vr 3, vi l1, vi l2, vi l3, vi l4] s R (f_Feats_add l1 l2 l3 l4 s) := by
  refine Ct.of (by decide) rfl (ρ := [some (vr 3), some (vi l1), some (vi l2), some (vi l3), some (vi l4)]) rfl ?_
  unfold f_Feats_add
  refine G.aload_n (pc' := 1) d_Feats_add_0 rfl rfl ?_
  refine G.get (pc' := 4) d_Feats_add_1 rfl fg_Feats_15 (HX_3 _ _) rfl ?_
  refine G.aload_n (pc' := 5) d_Feats_add_4 rfl rfl ?_
  refine G.get (pc' := 8) d_Feats_add_5 rfl fg_Feats_9 (HX_3 _ _) rfl ?_
  refine G.iload_n (pc' := 9) d_Feats_add_8 rfl rfl ?_
  refine G.iast (s' := wr s 4 (ix (s 3 0)) l1) (pc' := 10) d_Feats_add_9 rfl (HX_4 _ _) (HXa_4 _ _ _ _) ?_
  refine G.aload_n (pc' := 11) d_Feats_add_10 rfl rfl ?_
  refine G.get (pc' := 14) d_Feats_add_11 rfl fg_Feats_19 (HX_3 _ _) rfl ?_
  refine G.aload_n (pc' := 15) d_Feats_add_14 rfl rfl ?_
  refine G.get (pc' := 18) d_Feats_add_15 rfl fg_Feats_9 (HX_3 _ _) rfl ?_
  refine G.eqv (w := vi (s 3 0)) rfl ?_
  refine G.iload_n (pc' := 19) d_Feats_add_18 rfl rfl ?_
  refine G.iast (s' := wr (wr s 4 (ix (s 3 0)) l1) 5 (ix (s 3 0)) l2) (pc' := 20) d_Feats_add_19 rfl (HX_5 _ _) (HXa_5 _ _ _ _) ?_
  refine G.aload_n (pc' := 21) d_Feats_add_20 rfl rfl ?_
  refine G.get (pc' := 24) d_Feats_add_21 rfl fg_Feats_22 (HX_3 _ _) rfl ?_
  refine G.aload_n (pc' := 25) d_Feats_add_24 rfl rfl ?_
  refine G.get (pc' := 28) d_Feats_add_25 rfl fg_Feats_9 (HX_3 _ _) rfl ?_
  refine G.eqv (w := vi (s 3 0)) rfl ?_
  refine G.iload (pc' := 30) d_Feats_add_28 rfl rfl ?_
  refine G.iast (s' := wr (wr (wr s 4 (ix (s 3 0)) l1) 5 (ix (s 3 0)) l2) 6 (ix (s 3 0)) l4) (pc' := 31) d_Feats_add_30 rfl (HX_6 _ _) (HXa_6 _ _ _ _) ?_
  refine G.aload_n (pc' := 32) d_Feats_add_31 rfl rfl ?_
  refine G.get (pc' := 35) d_Feats_add_32 rfl fg_Feats_25 (HX_3 _ _) rfl ?_
  refine G.aload_n (pc' := 36) d_Feats_add_35 rfl rfl ?_
  refine G.get (pc' := 39) d_Feats_add_36 rfl fg_Feats_9 (HX_3 _ _) rfl ?_
  refine G.eqv (w := vi (s 3 0)) rfl ?_
  refine G.iload_n (pc' := 40) d_Feats_add_39 rfl rfl ?_
  refine G.zast (s' := wr (wr (wr (wr s 4 (ix (s 3 0)) l1) 5 (ix (s 3 0)) l2) 6 (ix (s 3 0)) l4) 7 (ix (s 3 0)) l3) (pc' := 41) d_Feats_add_40 rfl (HX_7 _ _) (HXa_7 _ _ _ _) ?_
  refine G.aload_n (pc' := 42) d_Feats_add_41 rfl rfl ?_
  refine G.dup (pc' := 43) d_Feats_add_42 rfl ?_
  refine G.get (pc' := 46) d_Feats_add_43 rfl fg_Feats_9 (HX_3 _ _) rfl ?_
  refine G.eqv (w := vi (s 3 0)) rfl ?_
  refine G.iconst (v := 1) (pc' := 47) d_Feats_add_46 rfl kI_1 ?_
  refine G.iadd (pc' := 48) d_Feats_add_47 rfl ?_
  refine G.put (s' := wr (wr (wr (wr (wr s 4 (ix (s 3 0)) l1) 5 (ix (s 3 0)) l2) 6 (ix (s 3 0)) l4) 7 (ix (s 3 0)) l3) 3 0 ((s 3 0) + 1)) (pc' := 51) d_Feats_add_48 rfl fp_Feats_9 trivial (HX_3 _ _) rfl (HXf_3_0 _ _ _) ?_
  refine G.aload_n (pc' := 52) d_Feats_add_51 rfl rfl ?_
  refine G.get (pc' := 55) d_Feats_add_52 rfl fg_Feats_9 (HX_3 _ _) rfl ?_
  refine G.eqv (w := vi ((s 3 0) + 1)) rfl ?_
  refine G.iconst (v := 1) (pc' := 56) d_Feats_add_55 rfl kI_1 ?_
  refine G.isub (pc' := 57) d_Feats_add_56 rfl ?_
  exact G.iret d_Feats_add_57 rfl ⟨Nat.le_refl _, Nat.le_refl _⟩
theorem t_FU_bit (l0 l1 : Int32) (s : Sg) (R : List AC) : Ct q_FU_bit [vi l0, vi l1] s R (f_FU_bit l0 l1 s) := by
  refine Ct.of (by decide) rfl (ρ := [some (vi l0), some (vi l1)]) rfl ?_
  unfold f_FU_bit
  refine G.iload_n (pc' := 1) d_FU_bit_0 rfl rfl ?_
  refine G.iload_n (pc' := 2) d_FU_bit_1 rfl rfl ?_
  refine G.ishr (pc' := 3) d_FU_bit_2 rfl ?_
  refine G.iconst (v := 1) (pc' := 4) d_FU_bit_3 rfl kI_1 ?_
  refine G.iand (pc' := 5) d_FU_bit_4 rfl ?_
  refine G.iconst (v := 1) (pc' := 6) d_FU_bit_5 rfl kI_1 ?_
  refine G.icmp_ne (pc' := 9) (tgt := 13) d_FU_bit_6 rfl (by decide) ?_ ?_
  · refine G.iconst (v := 1) (pc' := 10) d_FU_bit_9 rfl kI_1 ?_
    refine G.goto (tgt := 14) d_FU_bit_10 (by decide) ?_
    exact G.zretK (by decide) d_FU_bit_14 rfl ⟨Nat.le_refl _, Nat.le_refl _⟩
  · refine G.iconst (v := 0) (pc' := 14) d_FU_bit_13 rfl kI_0 ?_
    exact G.zretK (by decide) d_FU_bit_14 rfl ⟨Nat.le_refl _, Nat.le_refl _⟩
theorem t_Packs_makeRoot (l1 l2 : Int32) (s : Sg) (R : List AC) : Ct q_Packs_makeRoot [vr 1, vi l1, vi l2] s R (f_Packs_makeRoot l1 l2 s) := by
  refine Ct.of (by decide) rfl (ρ := [some (vr 1), some (vi l1), some (vi l2)]) rfl ?_
  unfold f_Packs_makeRoot
  refine G.aload_n (pc' := 1) d_Packs_makeRoot_0 rfl rfl ?_
  refine G.dup (pc' := 2) d_Packs_makeRoot_1 rfl ?_
  refine G.get (pc' := 5) d_Packs_makeRoot_2 rfl fg_Packs_15 (HX_1 _ _) rfl ?_
  refine G.iconst (v := 1) (pc' := 6) d_Packs_makeRoot_5 rfl kI_1 ?_
  refine G.iload_n (pc' := 7) d_Packs_makeRoot_6 rfl rfl ?_
  refine G.ishl (pc' := 8) d_Packs_makeRoot_7 rfl ?_
  refine G.ior (pc' := 9) d_Packs_makeRoot_8 rfl ?_
  refine G.put (s' := wr s 1 1 ((s 1 1) ||| (1 <<< (l1 &&& 31)))) (pc' := 12) d_Packs_makeRoot_9 rfl fp_Packs_15 trivial (HX_1 _ _) rfl (HXf_1_1 _ _ _) ?_
  refine G.iload_n (pc' := 13) d_Packs_makeRoot_12 rfl rfl ?_
  refine G.if_eq (pc' := 16) (tgt := 28) d_Packs_makeRoot_13 rfl (by decide) ?_ ?_
  · exact G.vret d_Packs_makeRoot_28 rfl ⟨Nat.le_refl _, Nat.le_refl _⟩
  · refine G.aload_n (pc' := 17) d_Packs_makeRoot_16 rfl rfl ?_
    refine G.dup (pc' := 18) d_Packs_makeRoot_17 rfl ?_
    refine G.get (pc' := 21) d_Packs_makeRoot_18 rfl fg_Packs_18 (HX_1 _ _) rfl ?_
    refine G.eqv (w := vi (s 1 2)) rfl ?_
    refine G.iconst (v := 1) (pc' := 22) d_Packs_makeRoot_21 rfl kI_1 ?_
    refine G.iload_n (pc' := 23) d_Packs_makeRoot_22 rfl rfl ?_
    refine G.ishl (pc' := 24) d_Packs_makeRoot_23 rfl ?_
    refine G.ior (pc' := 25) d_Packs_makeRoot_24 rfl ?_
    refine G.put (s' := wr (wr s 1 1 ((s 1 1) ||| (1 <<< (l1 &&& 31)))) 1 2 ((s 1 2) ||| (1 <<< (l1 &&& 31)))) (pc' := 28) d_Packs_makeRoot_25 rfl fp_Packs_18 trivial (HX_1 _ _) rfl (HXf_1_2 _ _ _) ?_
    exact G.vret d_Packs_makeRoot_28 rfl ⟨Nat.le_refl _, Nat.le_refl _⟩
theorem t_Users_add (l1 l2 l3 l4 l5 l6 : Int32) (s : Sg) (R : List AC) : Ct q_Users_add [vr 8, vi l1, vi l2, vi l3, vi l4, vi l5, vi l6] s R (f_Users_add l1 l2 l3 l4 l5 l6 s) := by
  refine Ct.of (by decide) rfl (ρ := [some (vr 8), some (vi l1), some (vi l2), some (vi l3), some (vi l4), some (vi l5), some (vi l6)]) rfl ?_
  unfold f_Users_add
  refine G.aload_n (pc' := 1) d_Users_add_0 rfl rfl ?_
  refine G.get (pc' := 4) d_Users_add_1 rfl fg_Users_15 (HX_8 _ _) rfl ?_
  refine G.aload_n (pc' := 5) d_Users_add_4 rfl rfl ?_
  refine G.get (pc' := 8) d_Users_add_5 rfl fg_Users_9 (HX_8 _ _) rfl ?_
  refine G.iload_n (pc' := 9) d_Users_add_8 rfl rfl ?_
  refine G.iast (s' := wr s 9 (ix (s 8 0)) l1) (pc' := 10) d_Users_add_9 rfl (HX_9 _ _) (HXa_9 _ _ _ _) ?_
  refine G.aload_n (pc' := 11) d_Users_add_10 rfl rfl ?_
  refine G.get (pc' := 14) d_Users_add_11 rfl fg_Users_19 (HX_8 _ _) rfl ?_
  refine G.aload_n (pc' := 15) d_Users_add_14 rfl rfl ?_
  refine G.get (pc' := 18) d_Users_add_15 rfl fg_Users_9 (HX_8 _ _) rfl ?_
  refine G.eqv (w := vi (s 8 0)) rfl ?_
  refine G.iload_n (pc' := 19) d_Users_add_18 rfl rfl ?_
  refine G.iast (s' := wr (wr s 9 (ix (s 8 0)) l1) 10 (ix (s 8 0)) l2) (pc' := 20) d_Users_add_19 rfl (HX_10 _ _) (HXa_10 _ _ _ _) ?_
  refine G.aload_n (pc' := 21) d_Users_add_20 rfl rfl ?_
  refine G.get (pc' := 24) d_Users_add_21 rfl fg_Users_28 (HX_8 _ _) rfl ?_
  refine G.aload_n (pc' := 25) d_Users_add_24 rfl rfl ?_
  refine G.get (pc' := 28) d_Users_add_25 rfl fg_Users_9 (HX_8 _ _) rfl ?_
  refine G.eqv (w := vi (s 8 0)) rfl ?_
  refine G.iload_n (pc' := 29) d_Users_add_28 rfl rfl ?_
  refine G.zast (s' := wr (wr (wr s 9 (ix (s 8 0)) l1) 10 (ix (s 8 0)) l2) 13 (ix (s 8 0)) l3) (pc' := 30) d_Users_add_29 rfl (HX_13 _ _) (HXa_13 _ _ _ _) ?_
  refine G.aload_n (pc' := 31) d_Users_add_30 rfl rfl ?_
  refine G.get (pc' := 34) d_Users_add_31 rfl fg_Users_32 (HX_8 _ _) rfl ?_
  refine G.aload_n (pc' := 35) d_Users_add_34 rfl rfl ?_
  refine G.get (pc' := 38) d_Users_add_35 rfl fg_Users_9 (HX_8 _ _) rfl ?_
  refine G.eqv (w := vi (s 8 0)) rfl ?_
  refine G.iload (pc' := 40) d_Users_add_38 rfl rfl ?_
  refine G.zast (s' := wr (wr (wr (wr s 9 (ix (s 8 0)) l1) 10 (ix (s 8 0)) l2) 13 (ix (s 8 0)) l3) 14 (ix (s 8 0)) l4) (pc' := 41) d_Users_add_40 rfl (HX_14 _ _) (HXa_14 _ _ _ _) ?_
  refine G.aload_n (pc' := 42) d_Users_add_41 rfl rfl ?_
  refine G.get (pc' := 45) d_Users_add_42 rfl fg_Users_35 (HX_8 _ _) rfl ?_
  refine G.aload_n (pc' := 46) d_Users_add_45 rfl rfl ?_
  refine G.get (pc' := 49) d_Users_add_46 rfl fg_Users_9 (HX_8 _ _) rfl ?_
  refine G.eqv (w := vi (s 8 0)) rfl ?_
  refine G.iload (pc' := 51) d_Users_add_49 rfl rfl ?_
  refine G.zast (s' := wr (wr (wr (wr (wr s 9 (ix (s 8 0)) l1) 10 (ix (s 8 0)) l2) 13 (ix (s 8 0)) l3) 14 (ix (s 8 0)) l4) 15 (ix (s 8 0)) l5) (pc' := 52) d_Users_add_51 rfl (HX_15 _ _) (HXa_15 _ _ _ _) ?_
  refine G.aload_n (pc' := 53) d_Users_add_52 rfl rfl ?_
  refine G.get (pc' := 56) d_Users_add_53 rfl fg_Users_22 (HX_8 _ _) rfl ?_
  refine G.aload_n (pc' := 57) d_Users_add_56 rfl rfl ?_
  refine G.get (pc' := 60) d_Users_add_57 rfl fg_Users_9 (HX_8 _ _) rfl ?_
  refine G.eqv (w := vi (s 8 0)) rfl ?_
  refine G.iload (pc' := 62) d_Users_add_60 rfl rfl ?_
  refine G.iast (s' := wr (wr (wr (wr (wr (wr s 9 (ix (s 8 0)) l1) 10 (ix (s 8 0)) l2) 13 (ix (s 8 0)) l3) 14 (ix (s 8 0)) l4) 15 (ix (s 8 0)) l5) 11 (ix (s 8 0)) l6) (pc' := 63) d_Users_add_62 rfl (HX_11 _ _) (HXa_11 _ _ _ _) ?_
  refine G.aload_n (pc' := 64) d_Users_add_63 rfl rfl ?_
  refine G.dup (pc' := 65) d_Users_add_64 rfl ?_
  refine G.get (pc' := 68) d_Users_add_65 rfl fg_Users_9 (HX_8 _ _) rfl ?_
  refine G.eqv (w := vi (s 8 0)) rfl ?_
  refine G.iconst (v := 1) (pc' := 69) d_Users_add_68 rfl kI_1 ?_
  refine G.iadd (pc' := 70) d_Users_add_69 rfl ?_
  refine G.put (s' := wr (wr (wr (wr (wr (wr (wr s 9 (ix (s 8 0)) l1) 10 (ix (s 8 0)) l2) 13 (ix (s 8 0)) l3) 14 (ix (s 8 0)) l4) 15 (ix (s 8 0)) l5) 11 (ix (s 8 0)) l6) 8 0 ((s 8 0) + 1)) (pc' := 73) d_Users_add_70 rfl fp_Users_9 trivial (HX_8 _ _) rfl (HXf_8_0 _ _ _) ?_
  refine G.aload_n (pc' := 74) d_Users_add_73 rfl rfl ?_
  refine G.get (pc' := 77) d_Users_add_74 rfl fg_Users_9 (HX_8 _ _) rfl ?_
  refine G.eqv (w := vi ((s 8 0) + 1)) rfl ?_
  refine G.iconst (v := 1) (pc' := 78) d_Users_add_77 rfl kI_1 ?_
  refine G.isub (pc' := 79) d_Users_add_78 rfl ?_
  exact G.iret d_Users_add_79 rfl ⟨Nat.le_refl _, Nat.le_refl _⟩
theorem t_Users_has (l1 : Int32) (s : Sg) (R : List AC) : Ct q_Users_has [vr 8, vi l1] s R (f_Users_has l1 s) := by
  refine Ct.of (by decide) rfl (ρ := [some (vr 8), some (vi l1)]) rfl ?_
  unfold f_Users_has
  refine G.iload_n (pc' := 1) d_Users_has_0 rfl rfl ?_
  refine G.aload_n (pc' := 2) d_Users_has_1 rfl rfl ?_
  refine G.get (pc' := 5) d_Users_has_2 rfl fg_Users_9 (HX_8 _ _) rfl ?_
  refine G.callSi (As := [vi l1, vi (s 8 0)]) (n := 2) (st := []) (t_FU_within l1 (s 8 0) s _) (pc' := 8) d_Users_has_5 rfl lm_Users_38 mk_FU_within sx_FU_within ⟨rfl, rfl⟩ ⟨by decide, by decide⟩ rfl rfl rfl ⟨Nat.le_refl _, Nat.le_refl _⟩ rfl (fun v1 s1 => ?_)
  exact G.zret d_Users_has_8 rfl ⟨Nat.le_refl _, Nat.le_refl _⟩
theorem t_Feats_has (l1 : Int32) (s : Sg) (R : List AC) : Ct q_Feats_has [vr 3, vi l1] s R (f_Feats_has l1 s) := by
  refine Ct.of (by decide) rfl (ρ := [some (vr 3), some (vi l1)]) rfl ?_
  unfold f_Feats_has
  refine G.iload_n (pc' := 1) d_Feats_has_0 rfl rfl ?_
  refine G.aload_n (pc' := 2) d_Feats_has_1 rfl rfl ?_
  refine G.get (pc' := 5) d_Feats_has_2 rfl fg_Feats_9 (HX_3 _ _) rfl ?_
  refine G.callSi (As := [vi l1, vi (s 3 0)]) (n := 2) (st := []) (t_FU_within l1 (s 3 0) s _) (pc' := 8) d_Feats_has_5 rfl lm_Feats_29 mk_FU_within sx_FU_within ⟨rfl, rfl⟩ ⟨by decide, by decide⟩ rfl rfl rfl ⟨Nat.le_refl _, Nat.le_refl _⟩ rfl (fun v1 s1 => ?_)
  exact G.zret d_Feats_has_8 rfl ⟨Nat.le_refl _, Nat.le_refl _⟩
theorem t_Turns_add (l1 l2 l3 l4 : Int32) (s : Sg) (R : List AC) : Ct q_Turns_add [vr 16, vi l1, vi l2, vi l3, vi l4] s R (f_Turns_add l1 l2 l3 l4 s) := by
  refine Ct.of (by decide) rfl (ρ := [some (vr 16), some (vi l1), some (vi l2), some (vi l3), some (vi l4)]) rfl ?_
  unfold f_Turns_add
  refine G.aload_n (pc' := 1) d_Turns_add_0 rfl rfl ?_
  refine G.get (pc' := 4) d_Turns_add_1 rfl fg_Turns_15 (HX_16 _ _) rfl ?_
  refine G.aload_n (pc' := 5) d_Turns_add_4 rfl rfl ?_
  refine G.get (pc' := 8) d_Turns_add_5 rfl fg_Turns_9 (HX_16 _ _) rfl ?_
  refine G.iload_n (pc' := 9) d_Turns_add_8 rfl rfl ?_
  refine G.iast (s' := wr s 17 (ix (s 16 0)) l1) (pc' := 10) d_Turns_add_9 rfl (HX_17 _ _) (HXa_17 _ _ _ _) ?_
  refine G.aload_n (pc' := 11) d_Turns_add_10 rfl rfl ?_
  refine G.get (pc' := 14) d_Turns_add_11 rfl fg_Turns_19 (HX_16 _ _) rfl ?_
  refine G.aload_n (pc' := 15) d_Turns_add_14 rfl rfl ?_
  refine G.get (pc' := 18) d_Turns_add_15 rfl fg_Turns_9 (HX_16 _ _) rfl ?_
  refine G.eqv (w := vi (s 16 0)) rfl ?_
  refine G.iload_n (pc' := 19) d_Turns_add_18 rfl rfl ?_
  refine G.iast (s' := wr (wr s 17 (ix (s 16 0)) l1) 18 (ix (s 16 0)) l2) (pc' := 20) d_Turns_add_19 rfl (HX_18 _ _) (HXa_18 _ _ _ _) ?_
  refine G.aload_n (pc' := 21) d_Turns_add_20 rfl rfl ?_
  refine G.get (pc' := 24) d_Turns_add_21 rfl fg_Turns_22 (HX_16 _ _) rfl ?_
  refine G.aload_n (pc' := 25) d_Turns_add_24 rfl rfl ?_
  refine G.get (pc' := 28) d_Turns_add_25 rfl fg_Turns_9 (HX_16 _ _) rfl ?_
  refine G.eqv (w := vi (s 16 0)) rfl ?_
  refine G.iload_n (pc' := 29) d_Turns_add_28 rfl rfl ?_
  refine G.iast (s' := wr (wr (wr s 17 (ix (s 16 0)) l1) 18 (ix (s 16 0)) l2) 19 (ix (s 16 0)) l3) (pc' := 30) d_Turns_add_29 rfl (HX_19 _ _) (HXa_19 _ _ _ _) ?_
  refine G.aload_n (pc' := 31) d_Turns_add_30 rfl rfl ?_
  refine G.get (pc' := 34) d_Turns_add_31 rfl fg_Turns_25 (HX_16 _ _) rfl ?_
  refine G.aload_n (pc' := 35) d_Turns_add_34 rfl rfl ?_
  refine G.get (pc' := 38) d_Turns_add_35 rfl fg_Turns_9 (HX_16 _ _) rfl ?_
  refine G.eqv (w := vi (s 16 0)) rfl ?_
  refine G.iload (pc' := 40) d_Turns_add_38 rfl rfl ?_
  refine G.iast (s' := wr (wr (wr (wr s 17 (ix (s 16 0)) l1) 18 (ix (s 16 0)) l2) 19 (ix (s 16 0)) l3) 20 (ix (s 16 0)) l4) (pc' := 41) d_Turns_add_40 rfl (HX_20 _ _) (HXa_20 _ _ _ _) ?_
  refine G.aload_n (pc' := 42) d_Turns_add_41 rfl rfl ?_
  refine G.dup (pc' := 43) d_Turns_add_42 rfl ?_
  refine G.get (pc' := 46) d_Turns_add_43 rfl fg_Turns_9 (HX_16 _ _) rfl ?_
  refine G.eqv (w := vi (s 16 0)) rfl ?_
  refine G.iconst (v := 1) (pc' := 47) d_Turns_add_46 rfl kI_1 ?_
  refine G.iadd (pc' := 48) d_Turns_add_47 rfl ?_
  refine G.put (s' := wr (wr (wr (wr (wr s 17 (ix (s 16 0)) l1) 18 (ix (s 16 0)) l2) 19 (ix (s 16 0)) l3) 20 (ix (s 16 0)) l4) 16 0 ((s 16 0) + 1)) (pc' := 51) d_Turns_add_48 rfl fp_Turns_9 trivial (HX_16 _ _) rfl (HXf_16_0 _ _ _) ?_
  refine G.aload_n (pc' := 52) d_Turns_add_51 rfl rfl ?_
  refine G.get (pc' := 55) d_Turns_add_52 rfl fg_Turns_9 (HX_16 _ _) rfl ?_
  refine G.eqv (w := vi ((s 16 0) + 1)) rfl ?_
  refine G.iconst (v := 1) (pc' := 56) d_Turns_add_55 rfl kI_1 ?_
  refine G.isub (pc' := 57) d_Turns_add_56 rfl ?_
  exact G.iret d_Turns_add_57 rfl ⟨Nat.le_refl _, Nat.le_refl _⟩
theorem t_Snap_take (l1 : Int32) (s : Sg) (R : List AC) : Ct q_Snap_take [vr 21, vi l1] s R (f_Snap_take l1 s) := by
  refine Ct.of (by decide) rfl (ρ := [some (vr 21), some (vi l1)]) rfl ?_
  unfold f_Snap_take
  refine G.aload_n (pc' := 1) d_Snap_take_0 rfl rfl ?_
  refine G.iload_n (pc' := 2) d_Snap_take_1 rfl rfl ?_
  refine G.put (s' := wr s 21 4 l1) (pc' := 5) d_Snap_take_2 rfl fp_Snap_9 trivial (HX_21 _ _) rfl (HXf_21_4 _ _ _) ?_
  refine G.aload_n (pc' := 6) d_Snap_take_5 rfl rfl ?_
  refine G.aload_n (pc' := 7) d_Snap_take_6 rfl rfl ?_
  refine G.get (pc' := 10) d_Snap_take_7 rfl fg_Snap_37 (HX_21 _ _) rfl ?_
  refine G.get (pc' := 13) d_Snap_take_10 rfl fg_Snap_53 (HX_1 _ _) rfl ?_
  refine G.eqv (w := vi (s 1 1)) rfl ?_
  refine G.put (s' := wr (wr s 21 4 l1) 21 5 (s 1 1)) (pc' := 16) d_Snap_take_13 rfl fp_Snap_15 trivial (HX_21 _ _) rfl (HXf_21_5 _ _ _) ?_
  refine G.aload_n (pc' := 17) d_Snap_take_16 rfl rfl ?_
  refine G.aload_n (pc' := 18) d_Snap_take_17 rfl rfl ?_
  refine G.get (pc' := 21) d_Snap_take_18 rfl fg_Snap_37 (HX_21 _ _) rfl ?_
  refine G.get (pc' := 24) d_Snap_take_21 rfl fg_Snap_56 (HX_1 _ _) rfl ?_
  refine G.eqv (w := vi (s 1 2)) rfl ?_
  refine G.put (s' := wr (wr (wr s 21 4 l1) 21 5 (s 1 1)) 21 6 (s 1 2)) (pc' := 27) d_Snap_take_24 rfl fp_Snap_18 trivial (HX_21 _ _) rfl (HXf_21_6 _ _ _) ?_
  refine G.aload_n (pc' := 28) d_Snap_take_27 rfl rfl ?_
  refine G.aload_n (pc' := 29) d_Snap_take_28 rfl rfl ?_
  refine G.get (pc' := 32) d_Snap_take_29 rfl fg_Snap_37 (HX_21 _ _) rfl ?_
  refine G.get (pc' := 35) d_Snap_take_32 rfl fg_Snap_57 (HX_1 _ _) rfl ?_
  refine G.eqv (w := vi (s 1 0)) rfl ?_
  refine G.put (s' := wr (wr (wr (wr s 21 4 l1) 21 5 (s 1 1)) 21 6 (s 1 2)) 21 7 (s 1 0)) (pc' := 38) d_Snap_take_35 rfl fp_Snap_21 trivial (HX_21 _ _) rfl (HXf_21_7 _ _ _) ?_
  refine G.aload_n (pc' := 39) d_Snap_take_38 rfl rfl ?_
  refine G.aload_n (pc' := 40) d_Snap_take_39 rfl rfl ?_
  refine G.get (pc' := 43) d_Snap_take_40 rfl fg_Snap_41 (HX_21 _ _) rfl ?_
  refine G.get (pc' := 46) d_Snap_take_43 rfl fg_Snap_60 (HX_3 _ _) rfl ?_
  refine G.eqv (w := vi (s 3 0)) rfl ?_
  refine G.put (s' := wr (wr (wr (wr (wr s 21 4 l1) 21 5 (s 1 1)) 21 6 (s 1 2)) 21 7 (s 1 0)) 21 8 (s 3 0)) (pc' := 49) d_Snap_take_46 rfl fp_Snap_24 trivial (HX_21 _ _) rfl (HXf_21_8 _ _ _) ?_
  refine G.aload_n (pc' := 50) d_Snap_take_49 rfl rfl ?_
  refine G.aload_n (pc' := 51) d_Snap_take_50 rfl rfl ?_
  refine G.get (pc' := 54) d_Snap_take_51 rfl fg_Snap_45 (HX_21 _ _) rfl ?_
  refine G.get (pc' := 57) d_Snap_take_54 rfl fg_Snap_63 (HX_8 _ _) rfl ?_
  refine G.eqv (w := vi (s 8 0)) rfl ?_
  refine G.put (s' := wr (wr (wr (wr (wr (wr s 21 4 l1) 21 5 (s 1 1)) 21 6 (s 1 2)) 21 7 (s 1 0)) 21 8 (s 3 0)) 21 9 (s 8 0)) (pc' := 60) d_Snap_take_57 rfl fp_Snap_27 trivial (HX_21 _ _) rfl (HXf_21_9 _ _ _) ?_
  refine G.aload_n (pc' := 61) d_Snap_take_60 rfl rfl ?_
  refine G.aload_n (pc' := 62) d_Snap_take_61 rfl rfl ?_
  refine G.get (pc' := 65) d_Snap_take_62 rfl fg_Snap_49 (HX_21 _ _) rfl ?_
  refine G.get (pc' := 68) d_Snap_take_65 rfl fg_Snap_66 (HX_16 _ _) rfl ?_
  refine G.eqv (w := vi (s 16 0)) rfl ?_
  refine G.put (s' := wr (wr (wr (wr (wr (wr (wr s 21 4 l1) 21 5 (s 1 1)) 21 6 (s 1 2)) 21 7 (s 1 0)) 21 8 (s 3 0)) 21 9 (s 8 0)) 21 10 (s 16 0)) (pc' := 71) d_Snap_take_68 rfl fp_Snap_30 trivial (HX_21 _ _) rfl (HXf_21_10 _ _ _) ?_
  refine G.aload_n (pc' := 72) d_Snap_take_71 rfl rfl ?_
  refine G.get (pc' := 75) d_Snap_take_72 rfl fg_Snap_45 (HX_21 _ _) rfl ?_
  refine G.get (pc' := 78) d_Snap_take_75 rfl fg_Snap_69 (HX_8 _ _) rfl ?_
  refine G.iconst (v := 0) (pc' := 79) d_Snap_take_78 rfl kI_0 ?_
  refine G.aload_n (pc' := 80) d_Snap_take_79 rfl rfl ?_
  refine G.get (pc' := 83) d_Snap_take_80 rfl fg_Snap_33 (HX_21 _ _) rfl ?_
  refine G.iconst (v := 0) (pc' := 84) d_Snap_take_83 rfl kI_0 ?_
  refine G.bipush (v := 40) (pc' := 86) d_Snap_take_84 rfl kB_40 ?_
  refine G.acopy (s' := cpa (wr (wr (wr (wr (wr (wr (wr s 21 4 l1) 21 5 (s 1 1)) 21 6 (s 1 2)) 21 7 (s 1 0)) 21 8 (s 3 0)) 21 9 (s 8 0)) 21 10 (s 16 0)) 12 22 (ix 0) (ix 0) (ix 40)) (pc' := 89) d_Snap_take_86 rfl ac_Snap_70 ac_nat ac_sta ac_ini (HX_12 _ _) (HX_22 _ _) (by decide) rfl (HXc_12_22 _ _ _ _ _) ?_
  exact G.vret d_Snap_take_89 rfl ⟨Nat.le_refl _, Nat.le_refl _⟩
theorem t_Snap_counts (l1 : Int32) (s : Sg) (R : List AC) : Ct q_Snap_counts [vr 21, vi l1] s R (f_Snap_counts l1 s) := by
  refine Ct.of (by decide) rfl (ρ := [some (vr 21), some (vi l1)]) rfl ?_
  unfold f_Snap_counts
  refine G.aload_n (pc' := 1) d_Snap_counts_0 rfl rfl ?_
  refine G.get (pc' := 4) d_Snap_counts_1 rfl fg_Snap_45 (HX_21 _ _) rfl ?_
  refine G.get (pc' := 7) d_Snap_counts_4 rfl fg_Snap_76 (HX_8 _ _) rfl ?_
  refine G.iload_n (pc' := 8) d_Snap_counts_7 rfl rfl ?_
  refine G.iald (pc' := 9) d_Snap_counts_8 rfl (HX_11 _ _) ?_
  refine G.aload_n (pc' := 10) d_Snap_counts_9 rfl rfl ?_
  refine G.get (pc' := 13) d_Snap_counts_10 rfl fg_Snap_9 (HX_21 _ _) rfl ?_
  refine G.callSi (As := [vi (s 11 (ix l1)), vi (s 21 4)]) (n := 2) (st := []) (t_FU_bit (s 11 (ix l1)) (s 21 4) s _) (pc' := 16) d_Snap_counts_13 rfl lm_Snap_79 mk_FU_bit sx_FU_bit ⟨rfl, rfl⟩ ⟨by decide, by decide⟩ rfl rfl rfl ⟨Nat.le_refl _, Nat.le_refl _⟩ rfl (fun v1 s1 => ?_)
  exact G.zret d_Snap_counts_16 rfl ⟨Nat.le_refl _, Nat.le_refl _⟩
theorem t_Snap_isDefaultOfRoot (l1 : Int32) (s : Sg) (R : List AC) : Ct q_Snap_isDefaultOfRoot [vr 21, vi l1] s R (f_Snap_isDefaultOfRoot l1 s) := by
  refine Ct.of (by decide) rfl (ρ := [some (vr 21), some (vi l1)]) rfl ?_
  unfold f_Snap_isDefaultOfRoot
  refine G.aload_n (pc' := 1) d_Snap_isDefaultOfRoot_0 rfl rfl ?_
  refine G.get (pc' := 4) d_Snap_isDefaultOfRoot_1 rfl fg_Snap_41 (HX_21 _ _) rfl ?_
  refine G.get (pc' := 7) d_Snap_isDefaultOfRoot_4 rfl fg_Snap_96 (HX_3 _ _) rfl ?_
  refine G.iload_n (pc' := 8) d_Snap_isDefaultOfRoot_7 rfl rfl ?_
  refine G.zald (pc' := 9) d_Snap_isDefaultOfRoot_8 rfl (HX_7 _ _) ?_
  refine G.if_eq (pc' := 12) (tgt := 35) d_Snap_isDefaultOfRoot_9 rfl (by decide) ?_ ?_
  · refine G.iconst (v := 0) (pc' := 36) d_Snap_isDefaultOfRoot_35 rfl kI_0 ?_
    exact G.zretK (by decide) d_Snap_isDefaultOfRoot_36 rfl ⟨Nat.le_refl _, Nat.le_refl _⟩
  · refine G.aload_n (pc' := 13) d_Snap_isDefaultOfRoot_12 rfl rfl ?_
    refine G.get (pc' := 16) d_Snap_isDefaultOfRoot_13 rfl fg_Snap_18 (HX_21 _ _) rfl ?_
    refine G.aload_n (pc' := 17) d_Snap_isDefaultOfRoot_16 rfl rfl ?_
    refine G.get (pc' := 20) d_Snap_isDefaultOfRoot_17 rfl fg_Snap_41 (HX_21 _ _) rfl ?_
    refine G.get (pc' := 23) d_Snap_isDefaultOfRoot_20 rfl fg_Snap_83 (HX_3 _ _) rfl ?_
    refine G.iload_n (pc' := 24) d_Snap_isDefaultOfRoot_23 rfl rfl ?_
    refine G.iald (pc' := 25) d_Snap_isDefaultOfRoot_24 rfl (HX_4 _ _) ?_
    refine G.callSi (As := [vi (s 21 6), vi (s 4 (ix l1))]) (n := 2) (st := []) (t_FU_bit (s 21 6) (s 4 (ix l1)) s _) (pc' := 28) d_Snap_isDefaultOfRoot_25 rfl lm_Snap_79 mk_FU_bit sx_FU_bit ⟨rfl, rfl⟩ ⟨by decide, by decide⟩ rfl rfl rfl ⟨Nat.le_refl _, Nat.le_refl _⟩ rfl (fun v1 s1 => ?_)
    refine G.if_eq (pc' := 31) (tgt := 35) d_Snap_isDefaultOfRoot_28 rfl (by decide) ?_ ?_
    · refine G.iconst (v := 0) (pc' := 36) d_Snap_isDefaultOfRoot_35 rfl kI_0 ?_
      exact G.zretK (by decide) d_Snap_isDefaultOfRoot_36 rfl ⟨Nat.le_refl _, Nat.le_refl _⟩
    · refine G.iconst (v := 1) (pc' := 32) d_Snap_isDefaultOfRoot_31 rfl kI_1 ?_
      refine G.goto (tgt := 36) d_Snap_isDefaultOfRoot_32 (by decide) ?_
      exact G.zretK (by decide) d_Snap_isDefaultOfRoot_36 rfl ⟨Nat.le_refl _, Nat.le_refl _⟩
theorem t_Users_farSide (l1 l2 : Int32) (s : Sg) (R : List AC) : Ct q_Users_farSide [vr 8, vi l1, vi l2] s R (f_Users_farSide l1 l2 s) := by
  refine Ct.of (by decide) rfl (ρ := [some (vr 8), some (vi l1), some (vi l2)]) rfl ?_
  unfold f_Users_farSide
  refine G.aload_n (pc' := 1) d_Users_farSide_0 rfl rfl ?_
  refine G.get (pc' := 4) d_Users_farSide_1 rfl fg_Users_32 (HX_8 _ _) rfl ?_
  refine G.iload_n (pc' := 5) d_Users_farSide_4 rfl rfl ?_
  refine G.zald (pc' := 6) d_Users_farSide_5 rfl (HX_14 _ _) ?_
  refine G.if_eq (pc' := 9) (tgt := 13) d_Users_farSide_6 rfl (by decide) ?_ ?_
  · refine G.iload_n (pc' := 14) d_Users_farSide_13 rfl rfl ?_
    exact G.iret d_Users_farSide_14 rfl ⟨Nat.le_refl _, Nat.le_refl _⟩
  · refine G.iconst (v := 1) (pc' := 10) d_Users_farSide_9 rfl kI_1 ?_
    refine G.goto (tgt := 14) d_Users_farSide_10 (by decide) ?_
    exact G.iret d_Users_farSide_14 rfl ⟨Nat.le_refl _, Nat.le_refl _⟩
theorem t_Snap_isAskedBy (l1 l2 : Int32) (s : Sg) (R : List AC) : Ct q_Snap_isAskedBy [vr 21, vi l1, vi l2] s R (f_Snap_isAskedBy l1 l2 s) := by
  refine Ct.of (by decide) rfl (ρ := [some (vr 21), some (vi l1), some (vi l2)]) rfl ?_
  unfold f_Snap_isAskedBy
  refine G.aload_n (pc' := 1) d_Snap_isAskedBy_0 rfl rfl ?_
  refine G.get (pc' := 4) d_Snap_isAskedBy_1 rfl fg_Snap_41 (HX_21 _ _) rfl ?_
  refine G.get (pc' := 7) d_Snap_isAskedBy_4 rfl fg_Snap_83 (HX_3 _ _) rfl ?_
  refine G.iload_n (pc' := 8) d_Snap_isAskedBy_7 rfl rfl ?_
  refine G.iald (pc' := 9) d_Snap_isAskedBy_8 rfl (HX_4 _ _) ?_
  refine G.aload_n (pc' := 10) d_Snap_isAskedBy_9 rfl rfl ?_
  refine G.get (pc' := 13) d_Snap_isAskedBy_10 rfl fg_Snap_45 (HX_21 _ _) rfl ?_
  refine G.get (pc' := 16) d_Snap_isAskedBy_13 rfl fg_Snap_86 (HX_8 _ _) rfl ?_
  refine G.iload_n (pc' := 17) d_Snap_isAskedBy_16 rfl rfl ?_
  refine G.iald (pc' := 18) d_Snap_isAskedBy_17 rfl (HX_10 _ _) ?_
  refine G.icmp_ne (pc' := 21) (tgt := 46) d_Snap_isAskedBy_18 rfl (by decide) ?_ ?_
  · refine G.aload_n (pc' := 22) d_Snap_isAskedBy_21 rfl rfl ?_
    refine G.get (pc' := 25) d_Snap_isAskedBy_22 rfl fg_Snap_33 (HX_21 _ _) rfl ?_
    refine G.iload_n (pc' := 26) d_Snap_isAskedBy_25 rfl rfl ?_
    refine G.iald (pc' := 27) d_Snap_isAskedBy_26 rfl (HX_22 _ _) ?_
    refine G.aload_n (pc' := 28) d_Snap_isAskedBy_27 rfl rfl ?_
    refine G.get (pc' := 31) d_Snap_isAskedBy_28 rfl fg_Snap_41 (HX_21 _ _) rfl ?_
    refine G.get (pc' := 34) d_Snap_isAskedBy_31 rfl fg_Snap_89 (HX_3 _ _) rfl ?_
    refine G.iload_n (pc' := 35) d_Snap_isAskedBy_34 rfl rfl ?_
    refine G.iald (pc' := 36) d_Snap_isAskedBy_35 rfl (HX_5 _ _) ?_
    refine G.callSi (As := [vi (s 22 (ix l1)), vi (s 5 (ix l2))]) (n := 2) (st := []) (t_FU_bit (s 22 (ix l1)) (s 5 (ix l2)) s _) (pc' := 39) d_Snap_isAskedBy_36 rfl lm_Snap_79 mk_FU_bit sx_FU_bit ⟨rfl, rfl⟩ ⟨by decide, by decide⟩ rfl rfl rfl ⟨Nat.le_refl _, Nat.le_refl _⟩ rfl (fun v1 s1 => ?_)
    refine G.if_eq (pc' := 42) (tgt := 46) d_Snap_isAskedBy_39 rfl (by decide) ?_ ?_
    · refine G.iconst (v := 0) (pc' := 47) d_Snap_isAskedBy_46 rfl kI_0 ?_
      exact G.zretK (by decide) d_Snap_isAskedBy_47 rfl ⟨Nat.le_refl _, Nat.le_refl _⟩
    · refine G.iconst (v := 1) (pc' := 43) d_Snap_isAskedBy_42 rfl kI_1 ?_
      refine G.goto (tgt := 47) d_Snap_isAskedBy_43 (by decide) ?_
      exact G.zretK (by decide) d_Snap_isAskedBy_47 rfl ⟨Nat.le_refl _, Nat.le_refl _⟩
  · refine G.iconst (v := 0) (pc' := 47) d_Snap_isAskedBy_46 rfl kI_0 ?_
    exact G.zretK (by decide) d_Snap_isAskedBy_47 rfl ⟨Nat.le_refl _, Nat.le_refl _⟩
theorem t_Snap_isDefaultFor (l1 l2 : Int32) (s : Sg) (R : List AC) : Ct q_Snap_isDefaultFor [vr 21, vi l1, vi l2] s R (f_Snap_isDefaultFor l1 l2 s) := by
  refine Ct.of (by decide) rfl (ρ := [some (vr 21), some (vi l1), some (vi l2)]) rfl ?_
  unfold f_Snap_isDefaultFor
  refine G.aload_n (pc' := 1) d_Snap_isDefaultFor_0 rfl rfl ?_
  refine G.get (pc' := 4) d_Snap_isDefaultFor_1 rfl fg_Snap_41 (HX_21 _ _) rfl ?_
  refine G.get (pc' := 7) d_Snap_isDefaultFor_4 rfl fg_Snap_83 (HX_3 _ _) rfl ?_
  refine G.iload_n (pc' := 8) d_Snap_isDefaultFor_7 rfl rfl ?_
  refine G.iald (pc' := 9) d_Snap_isDefaultFor_8 rfl (HX_4 _ _) ?_
  refine G.aload_n (pc' := 10) d_Snap_isDefaultFor_9 rfl rfl ?_
  refine G.get (pc' := 13) d_Snap_isDefaultFor_10 rfl fg_Snap_45 (HX_21 _ _) rfl ?_
  refine G.get (pc' := 16) d_Snap_isDefaultFor_13 rfl fg_Snap_86 (HX_8 _ _) rfl ?_
  refine G.iload_n (pc' := 17) d_Snap_isDefaultFor_16 rfl rfl ?_
  refine G.iald (pc' := 18) d_Snap_isDefaultFor_17 rfl (HX_10 _ _) ?_
  refine G.icmp_ne (pc' := 21) (tgt := 49) d_Snap_isDefaultFor_18 rfl (by decide) ?_ ?_
  · refine G.aload_n (pc' := 22) d_Snap_isDefaultFor_21 rfl rfl ?_
    refine G.get (pc' := 25) d_Snap_isDefaultFor_22 rfl fg_Snap_45 (HX_21 _ _) rfl ?_
    refine G.get (pc' := 28) d_Snap_isDefaultFor_25 rfl fg_Snap_92 (HX_8 _ _) rfl ?_
    refine G.iload_n (pc' := 29) d_Snap_isDefaultFor_28 rfl rfl ?_
    refine G.zald (pc' := 30) d_Snap_isDefaultFor_29 rfl (HX_13 _ _) ?_
    refine G.if_eq (pc' := 33) (tgt := 49) d_Snap_isDefaultFor_30 rfl (by decide) ?_ ?_
    · refine G.iconst (v := 0) (pc' := 50) d_Snap_isDefaultFor_49 rfl kI_0 ?_
      exact G.zretK (by decide) d_Snap_isDefaultFor_50 rfl ⟨Nat.le_refl _, Nat.le_refl _⟩
    · refine G.aload_n (pc' := 34) d_Snap_isDefaultFor_33 rfl rfl ?_
      refine G.get (pc' := 37) d_Snap_isDefaultFor_34 rfl fg_Snap_41 (HX_21 _ _) rfl ?_
      refine G.get (pc' := 40) d_Snap_isDefaultFor_37 rfl fg_Snap_96 (HX_3 _ _) rfl ?_
      refine G.iload_n (pc' := 41) d_Snap_isDefaultFor_40 rfl rfl ?_
      refine G.zald (pc' := 42) d_Snap_isDefaultFor_41 rfl (HX_7 _ _) ?_
      refine G.if_eq (pc' := 45) (tgt := 49) d_Snap_isDefaultFor_42 rfl (by decide) ?_ ?_
      · refine G.iconst (v := 0) (pc' := 50) d_Snap_isDefaultFor_49 rfl kI_0 ?_
        exact G.zretK (by decide) d_Snap_isDefaultFor_50 rfl ⟨Nat.le_refl _, Nat.le_refl _⟩
      · refine G.iconst (v := 1) (pc' := 46) d_Snap_isDefaultFor_45 rfl kI_1 ?_
        refine G.goto (tgt := 50) d_Snap_isDefaultFor_46 (by decide) ?_
        exact G.zretK (by decide) d_Snap_isDefaultFor_50 rfl ⟨Nat.le_refl _, Nat.le_refl _⟩
  · refine G.iconst (v := 0) (pc' := 50) d_Snap_isDefaultFor_49 rfl kI_0 ?_
    exact G.zretK (by decide) d_Snap_isDefaultFor_50 rfl ⟨Nat.le_refl _, Nat.le_refl _⟩
theorem t_Feats_exclude (l1 l2 : Int32) (s : Sg) (R : List AC) : Ct q_Feats_exclude [vr 3, vi l1, vi l2] s R (f_Feats_exclude l1 l2 s) := by
  refine Ct.of (by decide) rfl (ρ := [some (vr 3), some (vi l1), some (vi l2)]) rfl ?_
  unfold f_Feats_exclude
  refine G.aload_n (pc' := 1) d_Feats_exclude_0 rfl rfl ?_
  refine G.get (pc' := 4) d_Feats_exclude_1 rfl fg_Feats_22 (HX_3 _ _) rfl ?_
  refine G.iload_n (pc' := 5) d_Feats_exclude_4 rfl rfl ?_
  refine G.iald (pc' := 6) d_Feats_exclude_5 rfl (HX_6 _ _) ?_
  refine G.if_eq (pc' := 9) (tgt := 43) d_Feats_exclude_6 rfl (by decide) ?_ ?_
  · refine G.iconst (v := 0) (pc' := 44) d_Feats_exclude_43 rfl kI_0 ?_
    exact G.zretK (by decide) d_Feats_exclude_44 rfl ⟨Nat.le_refl _, Nat.le_refl _⟩
  · refine G.aload_n (pc' := 10) d_Feats_exclude_9 rfl rfl ?_
    refine G.get (pc' := 13) d_Feats_exclude_10 rfl fg_Feats_22 (HX_3 _ _) rfl ?_
    refine G.iload_n (pc' := 14) d_Feats_exclude_13 rfl rfl ?_
    refine G.iald (pc' := 15) d_Feats_exclude_14 rfl (HX_6 _ _) ?_
    refine G.aload_n (pc' := 16) d_Feats_exclude_15 rfl rfl ?_
    refine G.get (pc' := 19) d_Feats_exclude_16 rfl fg_Feats_22 (HX_3 _ _) rfl ?_
    refine G.iload_n (pc' := 20) d_Feats_exclude_19 rfl rfl ?_
    refine G.iald (pc' := 21) d_Feats_exclude_20 rfl (HX_6 _ _) ?_
    refine G.icmp_ne (pc' := 24) (tgt := 43) d_Feats_exclude_21 rfl (by decide) ?_ ?_
    · refine G.aload_n (pc' := 25) d_Feats_exclude_24 rfl rfl ?_
      refine G.get (pc' := 28) d_Feats_exclude_25 rfl fg_Feats_15 (HX_3 _ _) rfl ?_
      refine G.iload_n (pc' := 29) d_Feats_exclude_28 rfl rfl ?_
      refine G.iald (pc' := 30) d_Feats_exclude_29 rfl (HX_4 _ _) ?_
      refine G.aload_n (pc' := 31) d_Feats_exclude_30 rfl rfl ?_
      refine G.get (pc' := 34) d_Feats_exclude_31 rfl fg_Feats_15 (HX_3 _ _) rfl ?_
      refine G.iload_n (pc' := 35) d_Feats_exclude_34 rfl rfl ?_
      refine G.iald (pc' := 36) d_Feats_exclude_35 rfl (HX_4 _ _) ?_
      refine G.icmp_ne (pc' := 39) (tgt := 43) d_Feats_exclude_36 rfl (by decide) ?_ ?_
      · refine G.iconst (v := 1) (pc' := 40) d_Feats_exclude_39 rfl kI_1 ?_
        refine G.goto (tgt := 44) d_Feats_exclude_40 (by decide) ?_
        exact G.zretK (by decide) d_Feats_exclude_44 rfl ⟨Nat.le_refl _, Nat.le_refl _⟩
      · refine G.iconst (v := 0) (pc' := 44) d_Feats_exclude_43 rfl kI_0 ?_
        exact G.zretK (by decide) d_Feats_exclude_44 rfl ⟨Nat.le_refl _, Nat.le_refl _⟩
    · refine G.iconst (v := 0) (pc' := 44) d_Feats_exclude_43 rfl kI_0 ?_
      exact G.zretK (by decide) d_Feats_exclude_44 rfl ⟨Nat.le_refl _, Nat.le_refl _⟩
