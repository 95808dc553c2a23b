theorem wti {w : Cond} (i : Nat) (h : tables_1[i]? = some w) (g : goodWord w = true) : w ∈ Wt := List.mem_filter.mpr ⟨List.mem_append_right _ (List.mem_of_getElem? h), g⟩
theorem wt1 {w : Cond} (i : Nat) (h : tables_1_1[i]? = some w) (g : goodWord w = true) : w ∈ Wt := List.mem_filter.mpr ⟨List.mem_append_right _ (List.mem_append_left _ (List.mem_of_getElem? h)), g⟩
theorem wt2 {w : Cond} (i : Nat) (h : tables_1_2[i]? = some w) (g : goodWord w = true) : w ∈ Wt := List.mem_filter.mpr ⟨List.mem_append_right _ (List.mem_append_right _ (List.mem_append_left _ (List.mem_of_getElem? h))), g⟩
theorem wt3 {w : Cond} (i : Nat) (h : tables_1_3[i]? = some w) (g : goodWord w = true) : w ∈ Wt := List.mem_filter.mpr ⟨List.mem_append_right _ (List.mem_append_right _ (List.mem_append_right _ (List.mem_append_left _ (List.mem_of_getElem? h)))), g⟩
theorem wt4 {w : Cond} (i : Nat) (h : tables_1_4[i]? = some w) (g : goodWord w = true) : w ∈ Wt := List.mem_filter.mpr ⟨List.mem_append_right _ (List.mem_append_right _ (List.mem_append_right _ (List.mem_append_right _ (List.mem_of_getElem? h)))), g⟩
theorem wn1 {w : Cond} (i : Nat) (h : tables_1_1[i]? = some w) (g : isNest w = true) : w ∈ Wn := List.mem_filter.mpr ⟨List.mem_append_left _ (List.mem_of_getElem? h), g⟩
theorem wn2 {w : Cond} (i : Nat) (h : tables_1_2[i]? = some w) (g : isNest w = true) : w ∈ Wn := List.mem_filter.mpr ⟨List.mem_append_right _ (List.mem_append_left _ (List.mem_of_getElem? h)), g⟩
theorem wn3 {w : Cond} (i : Nat) (h : tables_1_3[i]? = some w) (g : isNest w = true) : w ∈ Wn := List.mem_filter.mpr ⟨List.mem_append_right _ (List.mem_append_right _ (List.mem_append_left _ (List.mem_of_getElem? h))), g⟩
theorem wts {w : Cond} (i : Nat) (h : (k2_sels lw_privs)[i]? = some w) (g : goodWord w = true) : w ∈ Wt := List.mem_filter.mpr ⟨List.mem_append_left _ (List.mem_of_getElem? h), g⟩
theorem memAll {big ws : List Cond} (ps : List Nat) (hp : ws = ps.filterMap (fun i => big[i]?)) : ∀ w ∈ ws, w ∈ big := by
  intro w hw
  rw [hp] at hw
  obtain ⟨i, -, hi⟩ := List.mem_filterMap.mp hw
  exact List.mem_of_getElem? hi
theorem wta {ws : List Cond} (ps : List Nat) (hp : ws = ps.filterMap (fun i => tables_1[i]?)) (g : ws.all goodWord = true) : ∀ w ∈ ws, w ∈ Wt := fun w hw => List.mem_filter.mpr ⟨List.mem_append_right _ (memAll ps hp w hw), List.all_eq_true.mp g w hw⟩
theorem uw_FU : ∀ w ∈ u_ws R_FU F_FU 11, w ∈ Wt := wta [255, 257, 259, 261, 263, 265, 267, 269, 271, 273, 275] (by decide +kernel) (by decide +kernel)
theorem uw_Packs : ∀ w ∈ u_ws R_Packs F_Packs 4, w ∈ Wt := wta [36, 38, 40, 42] (by decide +kernel) (by decide +kernel)
theorem uw_Feats : ∀ w ∈ u_ws R_Feats F_Feats 5, w ∈ Wt := wta [65, 67, 69, 71, 73] (by decide +kernel) (by decide +kernel)
theorem uw_Users : ∀ w ∈ u_ws R_Users F_Users 8, w ∈ Wt := wta [104, 106, 108, 110, 112, 114, 116, 118] (by decide +kernel) (by decide +kernel)
theorem uw_Turns : ∀ w ∈ u_ws R_Turns F_Turns 5, w ∈ Wt := wta [142, 144, 146, 148, 150] (by decide +kernel) (by decide +kernel)
theorem uw_Snap : ∀ w ∈ u_ws R_Snap F_Snap 12, w ∈ Wt := wta [187, 189, 191, 193, 195, 197, 199, 201, 203, 205, 207, 209] (by decide +kernel) (by decide +kernel)
theorem uw_Clo : ∀ w ∈ u_ws R_Clo F_Clo 4, w ∈ Wt := wta [222, 224, 226, 228] (by decide +kernel) (by decide +kernel)
theorem uw_Reas : ∀ w ∈ u_ws R_Reas F_Reas 2, w ∈ Wt := wta [239, 241] (by decide +kernel) (by decide +kernel)
theorem uw_Mod : ∀ w ∈ u_ws R_Mod F_Mod 46, w ∈ Wt := wta [575, 577, 579, 581, 583, 585, 587, 589, 591, 593, 595, 597, 599, 601, 603, 605, 607, 609, 611, 613, 615, 617, 619, 621, 623, 625, 627, 629, 631, 633, 635, 637, 639, 641, 643, 645, 647, 649, 651, 653, 655, 657, 659, 661, 663, 665] (by decide +kernel) (by decide +kernel)
abbrev b_Packs_init : ByteArray := prog_4_method_1_code
def y_Packs_init : MethodName := ⟨"FeatureUnions$Packs", "<init>", "()V"⟩
def q_Packs_init : MI := (y_Packs_init, b_Packs_init, 1, none, { frames := 1, cells := 1, slots := 10, locals := 12 })
abbrev b_Feats_init : ByteArray := prog_3_method_1_code
def y_Feats_init : MethodName := ⟨"FeatureUnions$Features", "<init>", "()V"⟩
def q_Feats_init : MI := (y_Feats_init, b_Feats_init, 1, none, { frames := 1, cells := 4, slots := 240, locals := 12 })
abbrev b_Users_init : ByteArray := prog_8_method_1_code
def y_Users_init : MethodName := ⟨"FeatureUnions$Users", "<init>", "()V"⟩
def q_Users_init : MI := (y_Users_init, b_Users_init, 1, none, { frames := 1, cells := 7, slots := 280, locals := 12 })
abbrev b_Turns_init : ByteArray := prog_7_method_1_code
def y_Turns_init : MethodName := ⟨"FeatureUnions$Turns", "<init>", "()V"⟩
def q_Turns_init : MI := (y_Turns_init, b_Turns_init, 1, none, { frames := 1, cells := 4, slots := 240, locals := 12 })
abbrev b_Snap_init : ByteArray := prog_6_method_1_code
def y_Snap_init : MethodName := ⟨"FeatureUnions$Snapshot", "<init>", "(LFeatureUnions$Packs;LFeatureUnions$Features;LFeatureUnions$Users;LFeatureUnions$Turns;)V"⟩
def q_Snap_init : MI := (y_Snap_init, b_Snap_init, 5, none, { frames := 1, cells := 1, slots := 40, locals := 12 })
abbrev b_Clo_init : ByteArray := prog_2_method_1_code
def y_Clo_init : MethodName := ⟨"FeatureUnions$Closure", "<init>", "(LFeatureUnions$Snapshot;)V"⟩
def q_Clo_init : MI := (y_Clo_init, b_Clo_init, 2, none, { frames := 1, cells := 2, slots := 440, locals := 12 })
abbrev b_Reas_init : ByteArray := prog_5_method_1_code
def y_Reas_init : MethodName := ⟨"FeatureUnions$Reasons", "<init>", "(LFeatureUnions$Snapshot;LFeatureUnions$Closure;)V"⟩
def q_Reas_init : MI := (y_Reas_init, b_Reas_init, 3, none, { frames := 1, cells := 0, slots := 0, locals := 12 })
abbrev b_FU_init : ByteArray := prog_1_method_1_code
def y_FU_init : MethodName := ⟨"FeatureUnions", "<init>", "()V"⟩
def q_FU_init : MI := (y_FU_init, b_FU_init, 1, none, { frames := 2, cells := 30, slots := 1854, locals := 36 })
abbrev b_Packs_add : ByteArray := prog_4_method_3_code
def y_Packs_add : MethodName := ⟨"FeatureUnions$Packs", "add", "(Z)I"⟩
def q_Packs_add : MI := (y_Packs_add, b_Packs_add, 2, some .int, { frames := 0, cells := 0, slots := 0, locals := 0 })
abbrev b_FU_pack : ByteArray := prog_1_method_2_code
def y_FU_pack : MethodName := ⟨"FeatureUnions", "pack", "(Z)I"⟩
def q_FU_pack : MI := (y_FU_pack, b_FU_pack, 2, some .int, { frames := 1, cells := 0, slots := 0, locals := 21 })
abbrev b_FU_within : ByteArray := prog_1_method_18_code
def y_FU_within : MethodName := ⟨"FeatureUnions", "within", "(II)Z"⟩
def q_FU_within : MI := (y_FU_within, b_FU_within, 2, some .boolean, { frames := 0, cells := 0, slots := 0, locals := 0 })
abbrev b_Packs_has : ByteArray := prog_4_method_2_code
def y_Packs_has : MethodName := ⟨"FeatureUnions$Packs", "has", "(I)Z"⟩
def q_Packs_has : MI := (y_Packs_has, b_Packs_has, 2, some .boolean, { frames := 1, cells := 0, slots := 0, locals := 21 })
abbrev b_Feats_find : ByteArray := prog_3_method_4_code
def y_Feats_find : MethodName := ⟨"FeatureUnions$Features", "find", "(II)I"⟩
def q_Feats_find : MI := (y_Feats_find, b_Feats_find, 4, some .int, { frames := 0, cells := 0, slots := 0, locals := 0 })
abbrev b_Feats_countOf : ByteArray := prog_3_method_5_code
def y_Feats_countOf : MethodName := ⟨"FeatureUnions$Features", "countOf", "(I)I"⟩
def q_Feats_countOf : MI := (y_Feats_countOf, b_Feats_countOf, 4, some .int, { frames := 0, cells := 0, slots := 0, locals := 0 })
abbrev b_Feats_add : ByteArray := prog_3_method_3_code
def y_Feats_add : MethodName := ⟨"FeatureUnions$Features", "add", "(IIZI)I"⟩
def q_Feats_add : MI := (y_Feats_add, b_Feats_add, 5, some .int, { frames := 0, cells := 0, slots := 0, locals := 0 })
abbrev b_FU_feature : ByteArray := prog_1_method_3_code
def y_FU_feature : MethodName := ⟨"FeatureUnions", "feature", "(IIZI)I"⟩
def q_FU_feature : MI := (y_FU_feature, b_FU_feature, 5, some .int, { frames := 2, cells := 0, slots := 0, locals := 42 })
abbrev b_FU_bit : ByteArray := prog_1_method_19_code
def y_FU_bit : MethodName := ⟨"FeatureUnions", "bit", "(II)Z"⟩
def q_FU_bit : MI := (y_FU_bit, b_FU_bit, 2, some .boolean, { frames := 0, cells := 0, slots := 0, locals := 0 })
abbrev b_Packs_makeRoot : ByteArray := prog_4_method_4_code
def y_Packs_makeRoot : MethodName := ⟨"FeatureUnions$Packs", "makeRoot", "(IZ)V"⟩
def q_Packs_makeRoot : MI := (y_Packs_makeRoot, b_Packs_makeRoot, 3, none, { frames := 0, cells := 0, slots := 0, locals := 0 })
abbrev b_FU_root : ByteArray := prog_1_method_4_code
def y_FU_root : MethodName := ⟨"FeatureUnions", "root", "(IZ)Z"⟩
def q_FU_root : MI := (y_FU_root, b_FU_root, 3, some .boolean, { frames := 2, cells := 0, slots := 0, locals := 42 })
abbrev b_Users_add : ByteArray := prog_8_method_3_code
def y_Users_add : MethodName := ⟨"FeatureUnions$Users", "add", "(IIZZZI)I"⟩
def q_Users_add : MI := (y_Users_add, b_Users_add, 7, some .int, { frames := 0, cells := 0, slots := 0, locals := 0 })
abbrev b_FU_user : ByteArray := prog_1_method_5_code
def y_FU_user : MethodName := ⟨"FeatureUnions", "user", "(IIZZZI)I"⟩
def q_FU_user : MI := (y_FU_user, b_FU_user, 7, some .int, { frames := 2, cells := 0, slots := 0, locals := 42 })
abbrev b_Users_has : ByteArray := prog_8_method_2_code
def y_Users_has : MethodName := ⟨"FeatureUnions$Users", "has", "(I)Z"⟩
def q_Users_has : MI := (y_Users_has, b_Users_has, 2, some .boolean, { frames := 1, cells := 0, slots := 0, locals := 21 })
abbrev b_FU_asks : ByteArray := prog_1_method_6_code
def y_FU_asks : MethodName := ⟨"FeatureUnions", "asks", "(II)I"⟩
def q_FU_asks : MI := (y_FU_asks, b_FU_asks, 3, some .int, { frames := 2, cells := 0, slots := 0, locals := 42 })
abbrev b_Feats_has : ByteArray := prog_3_method_2_code
def y_Feats_has : MethodName := ⟨"FeatureUnions$Features", "has", "(I)Z"⟩
def q_Feats_has : MI := (y_Feats_has, b_Feats_has, 2, some .boolean, { frames := 1, cells := 0, slots := 0, locals := 21 })
abbrev b_Turns_add : ByteArray := prog_7_method_2_code
def y_Turns_add : MethodName := ⟨"FeatureUnions$Turns", "add", "(IIII)I"⟩
def q_Turns_add : MI := (y_Turns_add, b_Turns_add, 5, some .int, { frames := 0, cells := 0, slots := 0, locals := 0 })
abbrev b_FU_turn : ByteArray := prog_1_method_7_code
def y_FU_turn : MethodName := ⟨"FeatureUnions", "turn", "(IIII)I"⟩
def q_FU_turn : MI := (y_FU_turn, b_FU_turn, 8, some .int, { frames := 2, cells := 0, slots := 0, locals := 42 })
abbrev b_Snap_take : ByteArray := prog_6_method_2_code
def y_Snap_take : MethodName := ⟨"FeatureUnions$Snapshot", "take", "(I)V"⟩
def q_Snap_take : MI := (y_Snap_take, b_Snap_take, 2, none, { frames := 1, cells := 0, slots := 0, locals := 64 })
abbrev b_Clo_bring : ByteArray := prog_2_method_16_code
def y_Clo_bring : MethodName := ⟨"FeatureUnions$Closure", "bring", "(II)V"⟩
def q_Clo_bring : MI := (y_Clo_bring, b_Clo_bring, 3, none, { frames := 0, cells := 0, slots := 0, locals := 0 })
abbrev b_Clo_bringThere : ByteArray := prog_2_method_13_code
def y_Clo_bringThere : MethodName := ⟨"FeatureUnions$Closure", "bringThere", "(III)V"⟩
def q_Clo_bringThere : MI := (y_Clo_bringThere, b_Clo_bringThere, 4, none, { frames := 1, cells := 0, slots := 0, locals := 22 })
abbrev b_Snap_counts : ByteArray := prog_6_method_3_code
def y_Snap_counts : MethodName := ⟨"FeatureUnions$Snapshot", "counts", "(I)Z"⟩
def q_Snap_counts : MI := (y_Snap_counts, b_Snap_counts, 2, some .boolean, { frames := 1, cells := 0, slots := 0, locals := 21 })
abbrev b_Clo_bringLive : ByteArray := prog_2_method_14_code
def y_Clo_bringLive : MethodName := ⟨"FeatureUnions$Closure", "bringLive", "(III)V"⟩
def q_Clo_bringLive : MI := (y_Clo_bringLive, b_Clo_bringLive, 4, none, { frames := 2, cells := 0, slots := 0, locals := 42 })
abbrev b_Snap_isDefaultOfRoot : ByteArray := prog_6_method_6_code
def y_Snap_isDefaultOfRoot : MethodName := ⟨"FeatureUnions$Snapshot", "isDefaultOfRoot", "(I)Z"⟩
def q_Snap_isDefaultOfRoot : MI := (y_Snap_isDefaultOfRoot, b_Snap_isDefaultOfRoot, 2, some .boolean, { frames := 1, cells := 0, slots := 0, locals := 21 })
abbrev b_Clo_onStage : ByteArray := prog_2_method_4_code
def y_Clo_onStage : MethodName := ⟨"FeatureUnions$Closure", "onStage", "(II)I"⟩
def q_Clo_onStage : MI := (y_Clo_onStage, b_Clo_onStage, 3, some .int, { frames := 0, cells := 0, slots := 0, locals := 0 })
abbrev b_Clo_isBy : ByteArray := prog_2_method_12_code
def y_Clo_isBy : MethodName := ⟨"FeatureUnions$Closure", "isBy", "(II)Z"⟩
def q_Clo_isBy : MI := (y_Clo_isBy, b_Clo_isBy, 2, some .boolean, { frames := 0, cells := 0, slots := 0, locals := 0 })
abbrev b_Clo_bringOn : ByteArray := prog_2_method_15_code
def y_Clo_bringOn : MethodName := ⟨"FeatureUnions$Closure", "bringOn", "(III)V"⟩
def q_Clo_bringOn : MI := (y_Clo_bringOn, b_Clo_bringOn, 4, none, { frames := 1, cells := 0, slots := 0, locals := 22 })
abbrev b_Clo_followThere : ByteArray := prog_2_method_8_code
def y_Clo_followThere : MethodName := ⟨"FeatureUnions$Closure", "followThere", "(III)V"⟩
def q_Clo_followThere : MI := (y_Clo_followThere, b_Clo_followThere, 7, none, { frames := 3, cells := 0, slots := 0, locals := 65 })
abbrev b_Users_farSide : ByteArray := prog_8_method_4_code
def y_Users_farSide : MethodName := ⟨"FeatureUnions$Users", "farSide", "(II)I"⟩
def q_Users_farSide : MI := (y_Users_farSide, b_Users_farSide, 3, some .int, { frames := 0, cells := 0, slots := 0, locals := 0 })
abbrev b_Snap_isAskedBy : ByteArray := prog_6_method_4_code
def y_Snap_isAskedBy : MethodName := ⟨"FeatureUnions$Snapshot", "isAskedBy", "(II)Z"⟩
def q_Snap_isAskedBy : MI := (y_Snap_isAskedBy, b_Snap_isAskedBy, 3, some .boolean, { frames := 1, cells := 0, slots := 0, locals := 21 })
abbrev b_Snap_isDefaultFor : ByteArray := prog_6_method_5_code
def y_Snap_isDefaultFor : MethodName := ⟨"FeatureUnions$Snapshot", "isDefaultFor", "(II)Z"⟩
def q_Snap_isDefaultFor : MI := (y_Snap_isDefaultFor, b_Snap_isDefaultFor, 3, some .boolean, { frames := 0, cells := 0, slots := 0, locals := 0 })
abbrev b_Clo_followLive : ByteArray := prog_2_method_9_code
def y_Clo_followLive : MethodName := ⟨"FeatureUnions$Closure", "followLive", "(III)V"⟩
def q_Clo_followLive : MI := (y_Clo_followLive, b_Clo_followLive, 6, none, { frames := 2, cells := 0, slots := 0, locals := 45 })
abbrev b_Clo_thereStage : ByteArray := prog_2_method_2_code
def y_Clo_thereStage : MethodName := ⟨"FeatureUnions$Closure", "thereStage", "(II)I"⟩
def q_Clo_thereStage : MI := (y_Clo_thereStage, b_Clo_thereStage, 3, some .int, { frames := 0, cells := 0, slots := 0, locals := 0 })
abbrev b_Clo_liveStage : ByteArray := prog_2_method_3_code
def y_Clo_liveStage : MethodName := ⟨"FeatureUnions$Closure", "liveStage", "(II)I"⟩
def q_Clo_liveStage : MI := (y_Clo_liveStage, b_Clo_liveStage, 3, some .int, { frames := 0, cells := 0, slots := 0, locals := 0 })
abbrev b_Clo_followTurn : ByteArray := prog_2_method_11_code
def y_Clo_followTurn : MethodName := ⟨"FeatureUnions$Closure", "followTurn", "(III)V"⟩
def q_Clo_followTurn : MI := (y_Clo_followTurn, b_Clo_followTurn, 7, none, { frames := 3, cells := 0, slots := 0, locals := 65 })
abbrev b_Clo_followOn : ByteArray := prog_2_method_10_code
def y_Clo_followOn : MethodName := ⟨"FeatureUnions$Closure", "followOn", "(III)V"⟩
def q_Clo_followOn : MI := (y_Clo_followOn, b_Clo_followOn, 6, none, { frames := 4, cells := 0, slots := 0, locals := 91 })
abbrev b_Clo_follow : ByteArray := prog_2_method_7_code
def y_Clo_follow : MethodName := ⟨"FeatureUnions$Closure", "follow", "(I)V"⟩
def q_Clo_follow : MI := (y_Clo_follow, b_Clo_follow, 4, none, { frames := 5, cells := 0, slots := 0, locals := 116 })
abbrev b_Clo_close : ByteArray := prog_2_method_6_code
def y_Clo_close : MethodName := ⟨"FeatureUnions$Closure", "close", "()V"⟩
def q_Clo_close : MI := (y_Clo_close, b_Clo_close, 2, none, { frames := 6, cells := 0, slots := 0, locals := 139 })
abbrev b_Clo_greatestStage : ByteArray := prog_2_method_5_code
def y_Clo_greatestStage : MethodName := ⟨"FeatureUnions$Closure", "greatestStage", "()I"⟩
def q_Clo_greatestStage : MI := (y_Clo_greatestStage, b_Clo_greatestStage, 1, some .int, { frames := 0, cells := 0, slots := 0, locals := 0 })
abbrev b_FU_run : ByteArray := prog_1_method_8_code
def y_FU_run : MethodName := ⟨"FeatureUnions", "run", "(I)I"⟩
def q_FU_run : MI := (y_FU_run, b_FU_run, 2, some .int, { frames := 7, cells := 0, slots := 0, locals := 160 })
abbrev b_FU_there : ByteArray := prog_1_method_9_code
def y_FU_there : MethodName := ⟨"FeatureUnions", "there", "(II)I"⟩
def q_FU_there : MI := (y_FU_there, b_FU_there, 3, some .int, { frames := 2, cells := 0, slots := 0, locals := 42 })
abbrev b_FU_live : ByteArray := prog_1_method_10_code
def y_FU_live : MethodName := ⟨"FeatureUnions", "live", "(II)I"⟩
def q_FU_live : MI := (y_FU_live, b_FU_live, 3, some .int, { frames := 2, cells := 0, slots := 0, locals := 42 })
abbrev b_FU_on : ByteArray := prog_1_method_11_code
def y_FU_on : MethodName := ⟨"FeatureUnions", "on", "(II)I"⟩
def q_FU_on : MI := (y_FU_on, b_FU_on, 3, some .int, { frames := 2, cells := 0, slots := 0, locals := 42 })
abbrev b_Reas_isByRoot : ByteArray := prog_5_method_5_code
def y_Reas_isByRoot : MethodName := ⟨"FeatureUnions$Reasons", "isByRoot", "(III)Z"⟩
def q_Reas_isByRoot : MI := (y_Reas_isByRoot, b_Reas_isByRoot, 4, some .boolean, { frames := 2, cells := 0, slots := 0, locals := 42 })
abbrev b_Reas_isByUser : ByteArray := prog_5_method_6_code
def y_Reas_isByUser : MethodName := ⟨"FeatureUnions$Reasons", "isByUser", "(IIII)Z"⟩
def q_Reas_isByUser : MI := (y_Reas_isByUser, b_Reas_isByUser, 7, some .boolean, { frames := 2, cells := 0, slots := 0, locals := 43 })
abbrev b_Reas_isByTurn : ByteArray := prog_5_method_7_code
def y_Reas_isByTurn : MethodName := ⟨"FeatureUnions$Reasons", "isByTurn", "(IIII)Z"⟩
def q_Reas_isByTurn : MI := (y_Reas_isByTurn, b_Reas_isByTurn, 9, some .boolean, { frames := 2, cells := 0, slots := 0, locals := 42 })
abbrev b_Reas_isByOtherSide : ByteArray := prog_5_method_8_code
def y_Reas_isByOtherSide : MethodName := ⟨"FeatureUnions$Reasons", "isByOtherSide", "(III)Z"⟩
def q_Reas_isByOtherSide : MI := (y_Reas_isByOtherSide, b_Reas_isByOtherSide, 5, some .boolean, { frames := 1, cells := 0, slots := 0, locals := 22 })
abbrev b_Reas_holds : ByteArray := prog_5_method_4_code
def y_Reas_holds : MethodName := ⟨"FeatureUnions$Reasons", "holds", "(III)Z"⟩
def q_Reas_holds : MI := (y_Reas_holds, b_Reas_holds, 6, some .boolean, { frames := 3, cells := 0, slots := 0, locals := 70 })
abbrev b_Reas_countOf : ByteArray := prog_5_method_2_code
def y_Reas_countOf : MethodName := ⟨"FeatureUnions$Reasons", "countOf", "(II)I"⟩
def q_Reas_countOf : MI := (y_Reas_countOf, b_Reas_countOf, 5, some .int, { frames := 4, cells := 0, slots := 0, locals := 95 })
abbrev b_FU_reasons : ByteArray := prog_1_method_12_code
def y_FU_reasons : MethodName := ⟨"FeatureUnions", "reasons", "(II)I"⟩
def q_FU_reasons : MI := (y_FU_reasons, b_FU_reasons, 3, some .int, { frames := 5, cells := 0, slots := 0, locals := 119 })
abbrev b_Reas_find : ByteArray := prog_5_method_3_code
def y_Reas_find : MethodName := ⟨"FeatureUnions$Reasons", "find", "(III)I"⟩
def q_Reas_find : MI := (y_Reas_find, b_Reas_find, 6, some .int, { frames := 4, cells := 0, slots := 0, locals := 95 })
abbrev b_FU_reason : ByteArray := prog_1_method_13_code
def y_FU_reason : MethodName := ⟨"FeatureUnions", "reason", "(IIII)I"⟩
def q_FU_reason : MI := (y_FU_reason, b_FU_reason, 6, some .int, { frames := 5, cells := 0, slots := 0, locals := 120 })
abbrev b_Feats_exclude : ByteArray := prog_3_method_6_code
def y_Feats_exclude : MethodName := ⟨"FeatureUnions$Features", "exclude", "(II)Z"⟩
def q_Feats_exclude : MI := (y_Feats_exclude, b_Feats_exclude, 3, some .boolean, { frames := 0, cells := 0, slots := 0, locals := 0 })
abbrev b_FU_clash : ByteArray := prog_1_method_14_code
def y_FU_clash : MethodName := ⟨"FeatureUnions", "clash", "(II)I"⟩
def q_FU_clash : MI := (y_FU_clash, b_FU_clash, 7, some .int, { frames := 1, cells := 0, slots := 0, locals := 22 })
abbrev b_FU_noteLeavers : ByteArray := prog_1_method_17_code
def y_FU_noteLeavers : MethodName := ⟨"FeatureUnions", "noteLeavers", "()V"⟩
def q_FU_noteLeavers : MI := (y_FU_noteLeavers, b_FU_noteLeavers, 3, none, { frames := 1, cells := 0, slots := 0, locals := 22 })
abbrev b_FU_without : ByteArray := prog_1_method_15_code
def y_FU_without : MethodName := ⟨"FeatureUnions", "without", "(II)I"⟩
def q_FU_without : MI := (y_FU_without, b_FU_without, 4, some .int, { frames := 7, cells := 0, slots := 0, locals := 160 })
abbrev b_FU_left : ByteArray := prog_1_method_16_code
def y_FU_left : MethodName := ⟨"FeatureUnions", "left", "(I)I"⟩
def q_FU_left : MI := (y_FU_left, b_FU_left, 2, some .int, { frames := 1, cells := 0, slots := 0, locals := 21 })
abbrev b_Mod_init : ByteArray := prog_10_method_1_code
def y_Mod_init : MethodName := ⟨"FeatureUnionsModel", "<init>", "()V"⟩
def q_Mod_init : MI := (y_Mod_init, b_Mod_init, 1, none, { frames := 1, cells := 29, slots := 2920, locals := 12 })
abbrev b_Mod_isPack : ByteArray := prog_10_method_3_code
def y_Mod_isPack : MethodName := ⟨"FeatureUnionsModel", "isPack", "(I)Z"⟩
def q_Mod_isPack : MI := (y_Mod_isPack, b_Mod_isPack, 2, some .boolean, { frames := 0, cells := 0, slots := 0, locals := 0 })
abbrev b_Mod_isUser : ByteArray := prog_10_method_4_code
def y_Mod_isUser : MethodName := ⟨"FeatureUnionsModel", "isUser", "(I)Z"⟩
def q_Mod_isUser : MI := (y_Mod_isUser, b_Mod_isUser, 2, some .boolean, { frames := 0, cells := 0, slots := 0, locals := 0 })
abbrev b_Mod_isFeature : ByteArray := prog_10_method_5_code
def y_Mod_isFeature : MethodName := ⟨"FeatureUnionsModel", "isFeature", "(I)Z"⟩
def q_Mod_isFeature : MI := (y_Mod_isFeature, b_Mod_isFeature, 2, some .boolean, { frames := 0, cells := 0, slots := 0, locals := 0 })
abbrev b_Mod_pack : ByteArray := prog_10_method_6_code
def y_Mod_pack : MethodName := ⟨"FeatureUnionsModel", "pack", "(Z)I"⟩
def q_Mod_pack : MI := (y_Mod_pack, b_Mod_pack, 2, some .int, { frames := 0, cells := 0, slots := 0, locals := 0 })
abbrev b_Mod_named : ByteArray := prog_10_method_7_code
def y_Mod_named : MethodName := ⟨"FeatureUnionsModel", "named", "(II)I"⟩
def q_Mod_named : MI := (y_Mod_named, b_Mod_named, 5, some .int, { frames := 0, cells := 0, slots := 0, locals := 0 })
abbrev b_Mod_many : ByteArray := prog_10_method_8_code
def y_Mod_many : MethodName := ⟨"FeatureUnionsModel", "many", "(I)I"⟩
def q_Mod_many : MI := (y_Mod_many, b_Mod_many, 4, some .int, { frames := 0, cells := 0, slots := 0, locals := 0 })
abbrev b_Mod_feature : ByteArray := prog_10_method_9_code
def y_Mod_feature : MethodName := ⟨"FeatureUnionsModel", "feature", "(IIZI)I"⟩
def q_Mod_feature : MI := (y_Mod_feature, b_Mod_feature, 5, some .int, { frames := 1, cells := 0, slots := 0, locals := 24 })
abbrev b_Mod_root : ByteArray := prog_10_method_10_code
def y_Mod_root : MethodName := ⟨"FeatureUnionsModel", "root", "(IZ)Z"⟩
def q_Mod_root : MI := (y_Mod_root, b_Mod_root, 3, some .boolean, { frames := 1, cells := 0, slots := 0, locals := 21 })
abbrev b_Mod_user : ByteArray := prog_10_method_11_code
def y_Mod_user : MethodName := ⟨"FeatureUnionsModel", "user", "(IIZZZI)I"⟩
def q_Mod_user : MI := (y_Mod_user, b_Mod_user, 7, some .int, { frames := 1, cells := 0, slots := 0, locals := 21 })
abbrev b_Mod_asking : ByteArray := prog_10_method_12_code
def y_Mod_asking : MethodName := ⟨"FeatureUnionsModel", "asking", "(III)I"⟩
def q_Mod_asking : MI := (y_Mod_asking, b_Mod_asking, 6, some .int, { frames := 0, cells := 0, slots := 0, locals := 0 })
abbrev b_Mod_asks : ByteArray := prog_10_method_13_code
def y_Mod_asks : MethodName := ⟨"FeatureUnionsModel", "asks", "(II)I"⟩
def q_Mod_asks : MI := (y_Mod_asks, b_Mod_asks, 4, some .int, { frames := 1, cells := 0, slots := 0, locals := 25 })
abbrev b_Mod_turn : ByteArray := prog_10_method_14_code
def y_Mod_turn : MethodName := ⟨"FeatureUnionsModel", "turn", "(IIII)I"⟩
def q_Mod_turn : MI := (y_Mod_turn, b_Mod_turn, 7, some .int, { frames := 1, cells := 0, slots := 0, locals := 24 })
abbrev b_Mod_isFor : ByteArray := prog_10_method_15_code
def y_Mod_isFor : MethodName := ⟨"FeatureUnionsModel", "isFor", "(I)Z"⟩
def q_Mod_isFor : MI := (y_Mod_isFor, b_Mod_isFor, 2, some .boolean, { frames := 0, cells := 0, slots := 0, locals := 0 })
abbrev b_Mod_farSide : ByteArray := prog_10_method_16_code
def y_Mod_farSide : MethodName := ⟨"FeatureUnionsModel", "farSide", "(II)I"⟩
def q_Mod_farSide : MI := (y_Mod_farSide, b_Mod_farSide, 3, some .int, { frames := 0, cells := 0, slots := 0, locals := 0 })
abbrev b_Mod_came : ByteArray := prog_10_method_17_code
def y_Mod_came : MethodName := ⟨"FeatureUnionsModel", "came", "(II)Z"⟩
def q_Mod_came : MI := (y_Mod_came, b_Mod_came, 2, some .boolean, { frames := 0, cells := 0, slots := 0, locals := 0 })
abbrev b_Mod_comesThere : ByteArray := prog_10_method_18_code
def y_Mod_comesThere : MethodName := ⟨"FeatureUnionsModel", "comesThere", "(III)Z"⟩
def q_Mod_comesThere : MI := (y_Mod_comesThere, b_Mod_comesThere, 7, some .boolean, { frames := 1, cells := 0, slots := 0, locals := 22 })
abbrev b_Mod_comesLive : ByteArray := prog_10_method_19_code
def y_Mod_comesLive : MethodName := ⟨"FeatureUnionsModel", "comesLive", "(III)Z"⟩
def q_Mod_comesLive : MI := (y_Mod_comesLive, b_Mod_comesLive, 6, some .boolean, { frames := 1, cells := 0, slots := 0, locals := 21 })
abbrev b_Mod_tell : ByteArray := prog_10_method_20_code
def y_Mod_tell : MethodName := ⟨"FeatureUnionsModel", "tell", "(II)V"⟩
def q_Mod_tell : MI := (y_Mod_tell, b_Mod_tell, 3, none, { frames := 0, cells := 0, slots := 0, locals := 0 })
abbrev b_Mod_turnsOn : ByteArray := prog_10_method_22_code
def y_Mod_turnsOn : MethodName := ⟨"FeatureUnionsModel", "turnsOn", "(IIIIII)Z"⟩
def q_Mod_turnsOn : MI := (y_Mod_turnsOn, b_Mod_turnsOn, 8, some .boolean, { frames := 1, cells := 0, slots := 0, locals := 22 })
abbrev b_Mod_gather : ByteArray := prog_10_method_21_code
def y_Mod_gather : MethodName := ⟨"FeatureUnionsModel", "gather", "(III)V"⟩
def q_Mod_gather : MI := (y_Mod_gather, b_Mod_gather, 8, none, { frames := 2, cells := 0, slots := 0, locals := 49 })
abbrev b_Mod_comesOn : ByteArray := prog_10_method_23_code
def y_Mod_comesOn : MethodName := ⟨"FeatureUnionsModel", "comesOn", "(III)Z"⟩
def q_Mod_comesOn : MI := (y_Mod_comesOn, b_Mod_comesOn, 4, some .boolean, { frames := 3, cells := 0, slots := 0, locals := 76 })
abbrev b_Mod_close : ByteArray := prog_10_method_24_code
def y_Mod_close : MethodName := ⟨"FeatureUnionsModel", "close", "()I"⟩
def q_Mod_close : MI := (y_Mod_close, b_Mod_close, 4, some .int, { frames := 4, cells := 0, slots := 0, locals := 99 })
abbrev b_Mod_run : ByteArray := prog_10_method_25_code
def y_Mod_run : MethodName := ⟨"FeatureUnionsModel", "run", "(I)I"⟩
def q_Mod_run : MI := (y_Mod_run, b_Mod_run, 4, some .int, { frames := 5, cells := 0, slots := 0, locals := 122 })
abbrev b_Mod_isSide : ByteArray := prog_10_method_26_code
def y_Mod_isSide : MethodName := ⟨"FeatureUnionsModel", "isSide", "(I)Z"⟩
def q_Mod_isSide : MI := (y_Mod_isSide, b_Mod_isSide, 1, some .boolean, { frames := 0, cells := 0, slots := 0, locals := 0 })
abbrev b_Mod_there : ByteArray := prog_10_method_27_code
def y_Mod_there : MethodName := ⟨"FeatureUnionsModel", "there", "(II)I"⟩
def q_Mod_there : MI := (y_Mod_there, b_Mod_there, 3, some .int, { frames := 1, cells := 0, slots := 0, locals := 20 })
abbrev b_Mod_live : ByteArray := prog_10_method_28_code
def y_Mod_live : MethodName := ⟨"FeatureUnionsModel", "live", "(II)I"⟩
def q_Mod_live : MI := (y_Mod_live, b_Mod_live, 3, some .int, { frames := 1, cells := 0, slots := 0, locals := 20 })
abbrev b_Mod_on : ByteArray := prog_10_method_29_code
def y_Mod_on : MethodName := ⟨"FeatureUnionsModel", "on", "(II)I"⟩
def q_Mod_on : MI := (y_Mod_on, b_Mod_on, 3, some .int, { frames := 1, cells := 0, slots := 0, locals := 20 })
abbrev b_Mod_reasoned : ByteArray := prog_10_method_30_code
def y_Mod_reasoned : MethodName := ⟨"FeatureUnionsModel", "reasoned", "(II)Z"⟩
def q_Mod_reasoned : MI := (y_Mod_reasoned, b_Mod_reasoned, 4, some .boolean, { frames := 3, cells := 0, slots := 0, locals := 76 })
abbrev b_Mod_reasons : ByteArray := prog_10_method_31_code
def y_Mod_reasons : MethodName := ⟨"FeatureUnionsModel", "reasons", "(II)I"⟩
def q_Mod_reasons : MI := (y_Mod_reasons, b_Mod_reasons, 3, some .int, { frames := 4, cells := 0, slots := 0, locals := 99 })
abbrev b_Mod_reason : ByteArray := prog_10_method_32_code
def y_Mod_reason : MethodName := ⟨"FeatureUnionsModel", "reason", "(IIII)I"⟩
def q_Mod_reason : MI := (y_Mod_reason, b_Mod_reason, 5, some .int, { frames := 4, cells := 0, slots := 0, locals := 99 })
abbrev b_Mod_clash : ByteArray := prog_10_method_33_code
def y_Mod_clash : MethodName := ⟨"FeatureUnionsModel", "clash", "(II)I"⟩
def q_Mod_clash : MI := (y_Mod_clash, b_Mod_clash, 7, some .int, { frames := 0, cells := 0, slots := 0, locals := 0 })
abbrev b_Mod_without : ByteArray := prog_10_method_34_code
def y_Mod_without : MethodName := ⟨"FeatureUnionsModel", "without", "(II)I"⟩
def q_Mod_without : MI := (y_Mod_without, b_Mod_without, 6, some .int, { frames := 5, cells := 0, slots := 0, locals := 122 })
abbrev b_Mod_left : ByteArray := prog_10_method_35_code
def y_Mod_left : MethodName := ⟨"FeatureUnionsModel", "left", "(I)I"⟩
def q_Mod_left : MI := (y_Mod_left, b_Mod_left, 2, some .int, { frames := 0, cells := 0, slots := 0, locals := 0 })
abbrev b_Law_law : ByteArray := code
def y_Law_law : MethodName := ⟨"FeatureUnionsLaw", "law", "([I)Z"⟩
def q_Law_law : MI := (y_Law_law, b_Law_law, 4, some .boolean, room_1)
