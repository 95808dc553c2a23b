section
-- ===== PART A: goes FIRST, ahead of the names: the tables' words, and 'selects' of the private methods out of them =====
/-- a private method of a class that the tables say can be made, by its rows of tables_1 -/
def lw_okq (q : MethodName × Nat) : Prop := (q.1.cls ≠ "java/lang/invoke/MethodHandle" ∧ q.1.cls ≠ "java/lang/invoke/VarHandle") ∧ Cond.instantiable q.1.cls q.2 ∈ tables_1 ∧ Cond.privateMethod q.1 ∈ tables_1 ∧ Cond.instanceMethod q.1 ∈ tables_1
theorem lw_p0 : lw_okq (⟨"FeatureUnions$Closure", "bringThere", "(III)V"⟩, 4) := ⟨⟨by decide +kernel, by decide +kernel⟩, List.mem_of_getElem? (i := 213) (by decide +kernel), List.mem_of_getElem? (i := 368) (by decide +kernel), List.mem_of_getElem? (i := 369) (by decide +kernel)⟩
theorem lw_p1 : lw_okq (⟨"FeatureUnions$Closure", "bring", "(II)V"⟩, 4) := ⟨⟨by decide +kernel, by decide +kernel⟩, List.mem_of_getElem? (i := 213) (by decide +kernel), List.mem_of_getElem? (i := 372) (by decide +kernel), List.mem_of_getElem? (i := 373) (by decide +kernel)⟩
theorem lw_p2 : lw_okq (⟨"FeatureUnions$Closure", "follow", "(I)V"⟩, 4) := ⟨⟨by decide +kernel, by decide +kernel⟩, List.mem_of_getElem? (i := 213) (by decide +kernel), List.mem_of_getElem? (i := 376) (by decide +kernel), List.mem_of_getElem? (i := 377) (by decide +kernel)⟩
theorem lw_p3 : lw_okq (⟨"FeatureUnions$Closure", "followThere", "(III)V"⟩, 4) := ⟨⟨by decide +kernel, by decide +kernel⟩, List.mem_of_getElem? (i := 213) (by decide +kernel), List.mem_of_getElem? (i := 380) (by decide +kernel), List.mem_of_getElem? (i := 381) (by decide +kernel)⟩
theorem lw_p4 : lw_okq (⟨"FeatureUnions$Closure", "bringLive", "(III)V"⟩, 4) := ⟨⟨by decide +kernel, by decide +kernel⟩, List.mem_of_getElem? (i := 213) (by decide +kernel), List.mem_of_getElem? (i := 384) (by decide +kernel), List.mem_of_getElem? (i := 385) (by decide +kernel)⟩
theorem lw_p5 : lw_okq (⟨"FeatureUnions$Closure", "bringOn", "(III)V"⟩, 4) := ⟨⟨by decide +kernel, by decide +kernel⟩, List.mem_of_getElem? (i := 213) (by decide +kernel), List.mem_of_getElem? (i := 404) (by decide +kernel), List.mem_of_getElem? (i := 405) (by decide +kernel)⟩
theorem lw_p6 : lw_okq (⟨"FeatureUnions$Closure", "followLive", "(III)V"⟩, 4) := ⟨⟨by decide +kernel, by decide +kernel⟩, List.mem_of_getElem? (i := 213) (by decide +kernel), List.mem_of_getElem? (i := 408) (by decide +kernel), List.mem_of_getElem? (i := 409) (by decide +kernel)⟩
theorem lw_p7 : lw_okq (⟨"FeatureUnions$Closure", "followOn", "(III)V"⟩, 4) := ⟨⟨by decide +kernel, by decide +kernel⟩, List.mem_of_getElem? (i := 213) (by decide +kernel), List.mem_of_getElem? (i := 424) (by decide +kernel), List.mem_of_getElem? (i := 425) (by decide +kernel)⟩
theorem lw_p8 : lw_okq (⟨"FeatureUnions$Closure", "followTurn", "(III)V"⟩, 4) := ⟨⟨by decide +kernel, by decide +kernel⟩, List.mem_of_getElem? (i := 213) (by decide +kernel), List.mem_of_getElem? (i := 432) (by decide +kernel), List.mem_of_getElem? (i := 433) (by decide +kernel)⟩
theorem lw_p9 : lw_okq (⟨"FeatureUnions$Reasons", "holds", "(III)Z"⟩, 2) := ⟨⟨by decide +kernel, by decide +kernel⟩, List.mem_of_getElem? (i := 232) (by decide +kernel), List.mem_of_getElem? (i := 468) (by decide +kernel), List.mem_of_getElem? (i := 469) (by decide +kernel)⟩
theorem lw_p10 : lw_okq (⟨"FeatureUnions$Reasons", "isByRoot", "(III)Z"⟩, 2) := ⟨⟨by decide +kernel, by decide +kernel⟩, List.mem_of_getElem? (i := 232) (by decide +kernel), List.mem_of_getElem? (i := 472) (by decide +kernel), List.mem_of_getElem? (i := 473) (by decide +kernel)⟩
theorem lw_p11 : lw_okq (⟨"FeatureUnions$Reasons", "isByUser", "(IIII)Z"⟩, 2) := ⟨⟨by decide +kernel, by decide +kernel⟩, List.mem_of_getElem? (i := 232) (by decide +kernel), List.mem_of_getElem? (i := 478) (by decide +kernel), List.mem_of_getElem? (i := 479) (by decide +kernel)⟩
theorem lw_p12 : lw_okq (⟨"FeatureUnions$Reasons", "isByTurn", "(IIII)Z"⟩, 2) := ⟨⟨by decide +kernel, by decide +kernel⟩, List.mem_of_getElem? (i := 232) (by decide +kernel), List.mem_of_getElem? (i := 486) (by decide +kernel), List.mem_of_getElem? (i := 487) (by decide +kernel)⟩
theorem lw_p13 : lw_okq (⟨"FeatureUnions$Reasons", "isByOtherSide", "(III)Z"⟩, 2) := ⟨⟨by decide +kernel, by decide +kernel⟩, List.mem_of_getElem? (i := 232) (by decide +kernel), List.mem_of_getElem? (i := 492) (by decide +kernel), List.mem_of_getElem? (i := 493) (by decide +kernel)⟩
theorem lw_p14 : lw_okq (⟨"FeatureUnions", "noteLeavers", "()V"⟩, 11) := ⟨⟨by decide +kernel, by decide +kernel⟩, List.mem_of_getElem? (i := 12) (by decide +kernel), List.mem_of_getElem? (i := 516) (by decide +kernel), List.mem_of_getElem? (i := 517) (by decide +kernel)⟩
theorem lw_p15 : lw_okq (⟨"FeatureUnionsModel", "isPack", "(I)Z"⟩, 46) := ⟨⟨by decide +kernel, by decide +kernel⟩, List.mem_of_getElem? (i := 524) (by decide +kernel), List.mem_of_getElem? (i := 677) (by decide +kernel), List.mem_of_getElem? (i := 678) (by decide +kernel)⟩
def lw_privs_1 : List (MethodName × Nat) := [(⟨"FeatureUnions$Closure", "bringThere", "(III)V"⟩, 4), (⟨"FeatureUnions$Closure", "bring", "(II)V"⟩, 4), (⟨"FeatureUnions$Closure", "follow", "(I)V"⟩, 4), (⟨"FeatureUnions$Closure", "followThere", "(III)V"⟩, 4), (⟨"FeatureUnions$Closure", "bringLive", "(III)V"⟩, 4), (⟨"FeatureUnions$Closure", "bringOn", "(III)V"⟩, 4), (⟨"FeatureUnions$Closure", "followLive", "(III)V"⟩, 4), (⟨"FeatureUnions$Closure", "followOn", "(III)V"⟩, 4), (⟨"FeatureUnions$Closure", "followTurn", "(III)V"⟩, 4), (⟨"FeatureUnions$Reasons", "holds", "(III)Z"⟩, 2), (⟨"FeatureUnions$Reasons", "isByRoot", "(III)Z"⟩, 2), (⟨"FeatureUnions$Reasons", "isByUser", "(IIII)Z"⟩, 2), (⟨"FeatureUnions$Reasons", "isByTurn", "(IIII)Z"⟩, 2), (⟨"FeatureUnions$Reasons", "isByOtherSide", "(III)Z"⟩, 2), (⟨"FeatureUnions", "noteLeavers", "()V"⟩, 11), (⟨"FeatureUnionsModel", "isPack", "(I)Z"⟩, 46)]
theorem lw_r1 : ∀ q ∈ lw_privs_1, lw_okq q := List.forall_mem_cons.mpr ⟨lw_p0, List.forall_mem_cons.mpr ⟨lw_p1, List.forall_mem_cons.mpr ⟨lw_p2, List.forall_mem_cons.mpr ⟨lw_p3, List.forall_mem_cons.mpr ⟨lw_p4, List.forall_mem_cons.mpr ⟨lw_p5, List.forall_mem_cons.mpr ⟨lw_p6, List.forall_mem_cons.mpr ⟨lw_p7, List.forall_mem_cons.mpr ⟨lw_p8, List.forall_mem_cons.mpr ⟨lw_p9, List.forall_mem_cons.mpr ⟨lw_p10, List.forall_mem_cons.mpr ⟨lw_p11, List.forall_mem_cons.mpr ⟨lw_p12, List.forall_mem_cons.mpr ⟨lw_p13, List.forall_mem_cons.mpr ⟨lw_p14, List.forall_mem_cons.mpr ⟨lw_p15, fun _ h => absurd h List.not_mem_nil⟩⟩⟩⟩⟩⟩⟩⟩⟩⟩⟩⟩⟩⟩⟩⟩
theorem lw_p16 : lw_okq (⟨"FeatureUnionsModel", "many", "(I)I"⟩, 46) := ⟨⟨by decide +kernel, by decide +kernel⟩, List.mem_of_getElem? (i := 524) (by decide +kernel), List.mem_of_getElem? (i := 681) (by decide +kernel), List.mem_of_getElem? (i := 682) (by decide +kernel)⟩
theorem lw_p17 : lw_okq (⟨"FeatureUnionsModel", "named", "(II)I"⟩, 46) := ⟨⟨by decide +kernel, by decide +kernel⟩, List.mem_of_getElem? (i := 524) (by decide +kernel), List.mem_of_getElem? (i := 685) (by decide +kernel), List.mem_of_getElem? (i := 686) (by decide +kernel)⟩
theorem lw_p18 : lw_okq (⟨"FeatureUnionsModel", "isUser", "(I)Z"⟩, 46) := ⟨⟨by decide +kernel, by decide +kernel⟩, List.mem_of_getElem? (i := 524) (by decide +kernel), List.mem_of_getElem? (i := 701) (by decide +kernel), List.mem_of_getElem? (i := 702) (by decide +kernel)⟩
theorem lw_p19 : lw_okq (⟨"FeatureUnionsModel", "asking", "(III)I"⟩, 46) := ⟨⟨by decide +kernel, by decide +kernel⟩, List.mem_of_getElem? (i := 524) (by decide +kernel), List.mem_of_getElem? (i := 705) (by decide +kernel), List.mem_of_getElem? (i := 706) (by decide +kernel)⟩
theorem lw_p20 : lw_okq (⟨"FeatureUnionsModel", "isFeature", "(I)Z"⟩, 46) := ⟨⟨by decide +kernel, by decide +kernel⟩, List.mem_of_getElem? (i := 524) (by decide +kernel), List.mem_of_getElem? (i := 713) (by decide +kernel), List.mem_of_getElem? (i := 714) (by decide +kernel)⟩
theorem lw_p21 : lw_okq (⟨"FeatureUnionsModel", "close", "()I"⟩, 46) := ⟨⟨by decide +kernel, by decide +kernel⟩, List.mem_of_getElem? (i := 524) (by decide +kernel), List.mem_of_getElem? (i := 721) (by decide +kernel), List.mem_of_getElem? (i := 722) (by decide +kernel)⟩
theorem lw_p22 : lw_okq (⟨"FeatureUnionsModel", "comesThere", "(III)Z"⟩, 46) := ⟨⟨by decide +kernel, by decide +kernel⟩, List.mem_of_getElem? (i := 524) (by decide +kernel), List.mem_of_getElem? (i := 725) (by decide +kernel), List.mem_of_getElem? (i := 726) (by decide +kernel)⟩
theorem lw_p23 : lw_okq (⟨"FeatureUnionsModel", "isFor", "(I)Z"⟩, 46) := ⟨⟨by decide +kernel, by decide +kernel⟩, List.mem_of_getElem? (i := 524) (by decide +kernel), List.mem_of_getElem? (i := 729) (by decide +kernel), List.mem_of_getElem? (i := 730) (by decide +kernel)⟩
theorem lw_p24 : lw_okq (⟨"FeatureUnionsModel", "farSide", "(II)I"⟩, 46) := ⟨⟨by decide +kernel, by decide +kernel⟩, List.mem_of_getElem? (i := 524) (by decide +kernel), List.mem_of_getElem? (i := 733) (by decide +kernel), List.mem_of_getElem? (i := 734) (by decide +kernel)⟩
theorem lw_p25 : lw_okq (⟨"FeatureUnionsModel", "comesLive", "(III)Z"⟩, 46) := ⟨⟨by decide +kernel, by decide +kernel⟩, List.mem_of_getElem? (i := 524) (by decide +kernel), List.mem_of_getElem? (i := 740) (by decide +kernel), List.mem_of_getElem? (i := 741) (by decide +kernel)⟩
theorem lw_p26 : lw_okq (⟨"FeatureUnionsModel", "comesOn", "(III)Z"⟩, 46) := ⟨⟨by decide +kernel, by decide +kernel⟩, List.mem_of_getElem? (i := 524) (by decide +kernel), List.mem_of_getElem? (i := 744) (by decide +kernel), List.mem_of_getElem? (i := 745) (by decide +kernel)⟩
theorem lw_p27 : lw_okq (⟨"FeatureUnionsModel", "gather", "(III)V"⟩, 46) := ⟨⟨by decide +kernel, by decide +kernel⟩, List.mem_of_getElem? (i := 524) (by decide +kernel), List.mem_of_getElem? (i := 748) (by decide +kernel), List.mem_of_getElem? (i := 749) (by decide +kernel)⟩
theorem lw_p28 : lw_okq (⟨"FeatureUnionsModel", "tell", "(II)V"⟩, 46) := ⟨⟨by decide +kernel, by decide +kernel⟩, List.mem_of_getElem? (i := 524) (by decide +kernel), List.mem_of_getElem? (i := 752) (by decide +kernel), List.mem_of_getElem? (i := 753) (by decide +kernel)⟩
theorem lw_p29 : lw_okq (⟨"FeatureUnionsModel", "turnsOn", "(IIIIII)Z"⟩, 46) := ⟨⟨by decide +kernel, by decide +kernel⟩, List.mem_of_getElem? (i := 524) (by decide +kernel), List.mem_of_getElem? (i := 756) (by decide +kernel), List.mem_of_getElem? (i := 757) (by decide +kernel)⟩
theorem lw_p30 : lw_okq (⟨"FeatureUnionsModel", "reasoned", "(II)Z"⟩, 46) := ⟨⟨by decide +kernel, by decide +kernel⟩, List.mem_of_getElem? (i := 524) (by decide +kernel), List.mem_of_getElem? (i := 779) (by decide +kernel), List.mem_of_getElem? (i := 780) (by decide +kernel)⟩
def lw_privs_2 : List (MethodName × Nat) := [(⟨"FeatureUnionsModel", "many", "(I)I"⟩, 46), (⟨"FeatureUnionsModel", "named", "(II)I"⟩, 46), (⟨"FeatureUnionsModel", "isUser", "(I)Z"⟩, 46), (⟨"FeatureUnionsModel", "asking", "(III)I"⟩, 46), (⟨"FeatureUnionsModel", "isFeature", "(I)Z"⟩, 46), (⟨"FeatureUnionsModel", "close", "()I"⟩, 46), (⟨"FeatureUnionsModel", "comesThere", "(III)Z"⟩, 46), (⟨"FeatureUnionsModel", "isFor", "(I)Z"⟩, 46), (⟨"FeatureUnionsModel", "farSide", "(II)I"⟩, 46), (⟨"FeatureUnionsModel", "comesLive", "(III)Z"⟩, 46), (⟨"FeatureUnionsModel", "comesOn", "(III)Z"⟩, 46), (⟨"FeatureUnionsModel", "gather", "(III)V"⟩, 46), (⟨"FeatureUnionsModel", "tell", "(II)V"⟩, 46), (⟨"FeatureUnionsModel", "turnsOn", "(IIIIII)Z"⟩, 46), (⟨"FeatureUnionsModel", "reasoned", "(II)Z"⟩, 46)]
theorem lw_r2 : ∀ q ∈ lw_privs_2, lw_okq q := List.forall_mem_cons.mpr ⟨lw_p16, List.forall_mem_cons.mpr ⟨lw_p17, List.forall_mem_cons.mpr ⟨lw_p18, List.forall_mem_cons.mpr ⟨lw_p19, List.forall_mem_cons.mpr ⟨lw_p20, List.forall_mem_cons.mpr ⟨lw_p21, List.forall_mem_cons.mpr ⟨lw_p22, List.forall_mem_cons.mpr ⟨lw_p23, List.forall_mem_cons.mpr ⟨lw_p24, List.forall_mem_cons.mpr ⟨lw_p25, List.forall_mem_cons.mpr ⟨lw_p26, List.forall_mem_cons.mpr ⟨lw_p27, List.forall_mem_cons.mpr ⟨lw_p28, List.forall_mem_cons.mpr ⟨lw_p29, List.forall_mem_cons.mpr ⟨lw_p30, fun _ h => absurd h List.not_mem_nil⟩⟩⟩⟩⟩⟩⟩⟩⟩⟩⟩⟩⟩⟩⟩
def lw_privs : List (MethodName × Nat) := lw_privs_1 ++ (lw_privs_2)
def lw_tbl : List Cond := k2_sels lw_privs ++ tables_1
theorem lw_privs_ok : ∀ q ∈ lw_privs, lw_okq q := by
  show ∀ q ∈ lw_privs_1 ++ (lw_privs_2), lw_okq q
  exact List.forall_mem_append.mpr ⟨lw_r1, lw_r2⟩
end
section
def R_FU : String := "FeatureUnions"
def F_FU : u_T := fun k => match k with
  | 0 => ("FeatureUnions", "packs", "LFeatureUnions$Packs;", true)
  | 1 => ("FeatureUnions", "features", "LFeatureUnions$Features;", true)
  | 2 => ("FeatureUnions", "users", "LFeatureUnions$Users;", true)
  | 3 => ("FeatureUnions", "turns", "LFeatureUnions$Turns;", true)
  | 4 => ("FeatureUnions", "snapshot", "LFeatureUnions$Snapshot;", true)
  | 5 => ("FeatureUnions", "latest", "LFeatureUnions$Closure;", true)
  | 6 => ("FeatureUnions", "trial", "LFeatureUnions$Closure;", true)
  | 7 => ("FeatureUnions", "grounds", "LFeatureUnions$Reasons;", true)
  | 8 => ("FeatureUnions", "leavers", "[I", true)
  | 9 => ("FeatureUnions", "leaverCount", "I", false)
  | _ => ("FeatureUnions", "current", "Z", false)
def ty_FU : Nat → FieldType := fun k => match k with
  | 0 => .object "FeatureUnions$Packs"
  | 1 => .object "FeatureUnions$Features"
  | 2 => .object "FeatureUnions$Users"
  | 3 => .object "FeatureUnions$Turns"
  | 4 => .object "FeatureUnions$Snapshot"
  | 5 => .object "FeatureUnions$Closure"
  | 6 => .object "FeatureUnions$Closure"
  | 7 => .object "FeatureUnions$Reasons"
  | 8 => .array .int
  | 9 => .int
  | _ => .boolean
def R_Packs : String := "FeatureUnions$Packs"
def F_Packs : u_T := fun k => match k with
  | 0 => ("FeatureUnions$Packs", "count", "I", false)
  | 1 => ("FeatureUnions$Packs", "roots", "I", false)
  | 2 => ("FeatureUnions$Packs", "rootsWithDefaults", "I", false)
  | _ => ("FeatureUnions$Packs", "apart", "[Z", true)
def ty_Packs : Nat → FieldType := fun k => match k with
  | 0 => .int
  | 1 => .int
  | 2 => .int
  | _ => .array .boolean
def R_Feats : String := "FeatureUnions$Features"
def F_Feats : u_T := fun k => match k with
  | 0 => ("FeatureUnions$Features", "count", "I", false)
  | 1 => ("FeatureUnions$Features", "pack", "[I", true)
  | 2 => ("FeatureUnions$Features", "name", "[I", true)
  | 3 => ("FeatureUnions$Features", "group", "[I", true)
  | _ => ("FeatureUnions$Features", "byDefault", "[Z", true)
def ty_Feats : Nat → FieldType := fun k => match k with
  | 0 => .int
  | 1 => .array .int
  | 2 => .array .int
  | 3 => .array .int
  | _ => .array .boolean
def R_Users : String := "FeatureUnions$Users"
def F_Users : u_T := fun k => match k with
  | 0 => ("FeatureUnions$Users", "count", "I", false)
  | 1 => ("FeatureUnions$Users", "from", "[I", true)
  | 2 => ("FeatureUnions$Users", "to", "[I", true)
  | 3 => ("FeatureUnions$Users", "platforms", "[I", true)
  | 4 => ("FeatureUnions$Users", "asked", "[I", true)
  | 5 => ("FeatureUnions$Users", "defaults", "[Z", true)
  | 6 => ("FeatureUnions$Users", "build", "[Z", true)
  | _ => ("FeatureUnions$Users", "optional", "[Z", true)
def ty_Users : Nat → FieldType := fun k => match k with
  | 0 => .int
  | 1 => .array .int
  | 2 => .array .int
  | 3 => .array .int
  | 4 => .array .int
  | 5 => .array .boolean
  | 6 => .array .boolean
  | _ => .array .boolean
def R_Turns : String := "FeatureUnions$Turns"
def F_Turns : u_T := fun k => match k with
  | 0 => ("FeatureUnions$Turns", "count", "I", false)
  | 1 => ("FeatureUnions$Turns", "feature", "[I", true)
  | 2 => ("FeatureUnions$Turns", "kind", "[I", true)
  | 3 => ("FeatureUnions$Turns", "user", "[I", true)
  | _ => ("FeatureUnions$Turns", "target", "[I", true)
def ty_Turns : Nat → FieldType := fun k => match k with
  | 0 => .int
  | 1 => .array .int
  | 2 => .array .int
  | 3 => .array .int
  | _ => .array .int
def R_Snap : String := "FeatureUnions$Snapshot"
def F_Snap : u_T := fun k => match k with
  | 0 => ("FeatureUnions$Snapshot", "packs", "LFeatureUnions$Packs;", true)
  | 1 => ("FeatureUnions$Snapshot", "features", "LFeatureUnions$Features;", true)
  | 2 => ("FeatureUnions$Snapshot", "users", "LFeatureUnions$Users;", true)
  | 3 => ("FeatureUnions$Snapshot", "turns", "LFeatureUnions$Turns;", true)
  | 4 => ("FeatureUnions$Snapshot", "platform", "I", false)
  | 5 => ("FeatureUnions$Snapshot", "roots", "I", false)
  | 6 => ("FeatureUnions$Snapshot", "rootsWithDefaults", "I", false)
  | 7 => ("FeatureUnions$Snapshot", "packCount", "I", false)
  | 8 => ("FeatureUnions$Snapshot", "featureCount", "I", false)
  | 9 => ("FeatureUnions$Snapshot", "userCount", "I", false)
  | 10 => ("FeatureUnions$Snapshot", "turnCount", "I", false)
  | _ => ("FeatureUnions$Snapshot", "asked", "[I", true)
def ty_Snap : Nat → FieldType := fun k => match k with
  | 0 => .object "FeatureUnions$Packs"
  | 1 => .object "FeatureUnions$Features"
  | 2 => .object "FeatureUnions$Users"
  | 3 => .object "FeatureUnions$Turns"
  | 4 => .int
  | 5 => .int
  | 6 => .int
  | 7 => .int
  | 8 => .int
  | 9 => .int
  | 10 => .int
  | _ => .array .int
def R_Clo : String := "FeatureUnions$Closure"
def F_Clo : u_T := fun k => match k with
  | 0 => ("FeatureUnions$Closure", "seen", "LFeatureUnions$Snapshot;", true)
  | 1 => ("FeatureUnions$Closure", "stage", "[I", true)
  | 2 => ("FeatureUnions$Closure", "queue", "[I", true)
  | _ => ("FeatureUnions$Closure", "queued", "I", false)
def ty_Clo : Nat → FieldType := fun k => match k with
  | 0 => .object "FeatureUnions$Snapshot"
  | 1 => .array .int
  | 2 => .array .int
  | _ => .int
def R_Reas : String := "FeatureUnions$Reasons"
def F_Reas : u_T := fun k => match k with
  | 0 => ("FeatureUnions$Reasons", "seen", "LFeatureUnions$Snapshot;", true)
  | _ => ("FeatureUnions$Reasons", "closure", "LFeatureUnions$Closure;", true)
def ty_Reas : Nat → FieldType := fun k => match k with
  | 0 => .object "FeatureUnions$Snapshot"
  | _ => .object "FeatureUnions$Closure"
def R_Mod : String := "FeatureUnionsModel"
def F_Mod : u_T := fun k => match k with
  | 0 => ("FeatureUnionsModel", "code", "I", false)
  | 1 => ("FeatureUnionsModel", "packs", "I", false)
  | 2 => ("FeatureUnionsModel", "features", "I", false)
  | 3 => ("FeatureUnionsModel", "users", "I", false)
  | 4 => ("FeatureUnionsModel", "asks", "I", false)
  | 5 => ("FeatureUnionsModel", "rows", "I", false)
  | 6 => ("FeatureUnionsModel", "apart", "[Z", true)
  | 7 => ("FeatureUnionsModel", "root", "[Z", true)
  | 8 => ("FeatureUnionsModel", "rootDefaults", "[Z", true)
  | 9 => ("FeatureUnionsModel", "featurePack", "[I", true)
  | 10 => ("FeatureUnionsModel", "featureName", "[I", true)
  | 11 => ("FeatureUnionsModel", "featureGroup", "[I", true)
  | 12 => ("FeatureUnionsModel", "byDefault", "[Z", true)
  | 13 => ("FeatureUnionsModel", "from", "[I", true)
  | 14 => ("FeatureUnionsModel", "to", "[I", true)
  | 15 => ("FeatureUnionsModel", "platforms", "[I", true)
  | 16 => ("FeatureUnionsModel", "defaults", "[Z", true)
  | 17 => ("FeatureUnionsModel", "build", "[Z", true)
  | 18 => ("FeatureUnionsModel", "optional", "[Z", true)
  | 19 => ("FeatureUnionsModel", "askUser", "[I", true)
  | 20 => ("FeatureUnionsModel", "askFeature", "[I", true)
  | 21 => ("FeatureUnionsModel", "rowFeature", "[I", true)
  | 22 => ("FeatureUnionsModel", "rowKind", "[I", true)
  | 23 => ("FeatureUnionsModel", "rowUser", "[I", true)
  | 24 => ("FeatureUnionsModel", "rowOther", "[I", true)
  | 25 => ("FeatureUnionsModel", "thenPacks", "I", false)
  | 26 => ("FeatureUnionsModel", "thenFeatures", "I", false)
  | 27 => ("FeatureUnionsModel", "thenUsers", "I", false)
  | 28 => ("FeatureUnionsModel", "thenAsks", "I", false)
  | 29 => ("FeatureUnionsModel", "thenRows", "I", false)
  | 30 => ("FeatureUnionsModel", "platform", "I", false)
  | 31 => ("FeatureUnionsModel", "thenRoot", "[Z", true)
  | 32 => ("FeatureUnionsModel", "ran", "Z", false)
  | 33 => ("FeatureUnionsModel", "since", "Z", false)
  | 34 => ("FeatureUnionsModel", "there", "[I", true)
  | 35 => ("FeatureUnionsModel", "live", "[I", true)
  | 36 => ("FeatureUnionsModel", "on", "[I", true)
  | 37 => ("FeatureUnionsModel", "ranThere", "[I", true)
  | 38 => ("FeatureUnionsModel", "ranLive", "[I", true)
  | 39 => ("FeatureUnionsModel", "ranOn", "[I", true)
  | 40 => ("FeatureUnionsModel", "out", "I", false)
  | 41 => ("FeatureUnionsModel", "left", "[I", true)
  | 42 => ("FeatureUnionsModel", "lefts", "I", false)
  | 43 => ("FeatureUnionsModel", "reasonKind", "[I", true)
  | 44 => ("FeatureUnionsModel", "reasonNumber", "[I", true)
  | _ => ("FeatureUnionsModel", "reasonMany", "I", false)
def ty_Mod : Nat → FieldType := fun k => match k with
  | 0 => .int
  | 1 => .int
  | 2 => .int
  | 3 => .int
  | 4 => .int
  | 5 => .int
  | 6 => .array .boolean
  | 7 => .array .boolean
  | 8 => .array .boolean
  | 9 => .array .int
  | 10 => .array .int
  | 11 => .array .int
  | 12 => .array .boolean
  | 13 => .array .int
  | 14 => .array .int
  | 15 => .array .int
  | 16 => .array .boolean
  | 17 => .array .boolean
  | 18 => .array .boolean
  | 19 => .array .int
  | 20 => .array .int
  | 21 => .array .int
  | 22 => .array .int
  | 23 => .array .int
  | 24 => .array .int
  | 25 => .int
  | 26 => .int
  | 27 => .int
  | 28 => .int
  | 29 => .int
  | 30 => .int
  | 31 => .array .boolean
  | 32 => .boolean
  | 33 => .boolean
  | 34 => .array .int
  | 35 => .array .int
  | 36 => .array .int
  | 37 => .array .int
  | 38 => .array .int
  | 39 => .array .int
  | 40 => .int
  | 41 => .array .int
  | 42 => .int
  | 43 => .array .int
  | 44 => .array .int
  | _ => .int
abbrev vwCl : List vw_C := [(R_FU, F_FU, 11), (R_Packs, F_Packs, 4), (R_Feats, F_Feats, 5), (R_Users, F_Users, 8), (R_Turns, F_Turns, 5), (R_Snap, F_Snap, 12), (R_Clo, F_Clo, 4), (R_Reas, F_Reas, 2), (R_Mod, F_Mod, 46)]
theorem nm_FU : ∀ a, a < 11 → ∀ b, b < 11 → a ≠ b → (F_FU a).2.1 ≠ (F_FU b).2.1 := by decide +kernel
theorem to_FU : ∀ k, k < 11 → parseFieldDescriptor (F_FU k).2.2.1 = some (ty_FU k) := by decide +kernel
theorem nm_Packs : ∀ a, a < 4 → ∀ b, b < 4 → a ≠ b → (F_Packs a).2.1 ≠ (F_Packs b).2.1 := by decide +kernel
theorem to_Packs : ∀ k, k < 4 → parseFieldDescriptor (F_Packs k).2.2.1 = some (ty_Packs k) := by decide +kernel
theorem nm_Feats : ∀ a, a < 5 → ∀ b, b < 5 → a ≠ b → (F_Feats a).2.1 ≠ (F_Feats b).2.1 := by decide +kernel
theorem to_Feats : ∀ k, k < 5 → parseFieldDescriptor (F_Feats k).2.2.1 = some (ty_Feats k) := by decide +kernel
theorem nm_Users : ∀ a, a < 8 → ∀ b, b < 8 → a ≠ b → (F_Users a).2.1 ≠ (F_Users b).2.1 := by decide +kernel
theorem to_Users : ∀ k, k < 8 → parseFieldDescriptor (F_Users k).2.2.1 = some (ty_Users k) := by decide +kernel
theorem nm_Turns : ∀ a, a < 5 → ∀ b, b < 5 → a ≠ b → (F_Turns a).2.1 ≠ (F_Turns b).2.1 := by decide +kernel
theorem to_Turns : ∀ k, k < 5 → parseFieldDescriptor (F_Turns k).2.2.1 = some (ty_Turns k) := by decide +kernel
theorem nm_Snap : ∀ a, a < 12 → ∀ b, b < 12 → a ≠ b → (F_Snap a).2.1 ≠ (F_Snap b).2.1 := by decide +kernel
theorem to_Snap : ∀ k, k < 12 → parseFieldDescriptor (F_Snap k).2.2.1 = some (ty_Snap k) := by decide +kernel
theorem nm_Clo : ∀ a, a < 4 → ∀ b, b < 4 → a ≠ b → (F_Clo a).2.1 ≠ (F_Clo b).2.1 := by decide +kernel
theorem to_Clo : ∀ k, k < 4 → parseFieldDescriptor (F_Clo k).2.2.1 = some (ty_Clo k) := by decide +kernel
theorem nm_Reas : ∀ a, a < 2 → ∀ b, b < 2 → a ≠ b → (F_Reas a).2.1 ≠ (F_Reas b).2.1 := by decide +kernel
theorem to_Reas : ∀ k, k < 2 → parseFieldDescriptor (F_Reas k).2.2.1 = some (ty_Reas k) := by decide +kernel
theorem nm_Mod : ∀ a, a < 46 → ∀ b, b < 46 → a ≠ b → (F_Mod a).2.1 ≠ (F_Mod b).2.1 := by decide +kernel
theorem to_Mod : ∀ k, k < 46 → parseFieldDescriptor (F_Mod k).2.2.1 = some (ty_Mod k) := by decide +kernel
end
section
/-! the worlds of all methods in one form: values and cells by number -/
abbrev AV : Type := Int32 ⊕ (Bool ⊕ Nat)
abbrev vi (x : Int32) : AV := Sum.inl x
abbrev vr (i : Nat) : AV := Sum.inr (Sum.inr i)
abbrev vn : AV := Sum.inr (Sum.inl false)
abbrev vs : AV := Sum.inr (Sum.inl true)
def cv (b : Nat) (ad : Nat → Nat) : AV → Value
  | .inl x => .int x
  | .inr (.inl false) => .null
  | .inr (.inl true) => .ref b
  | .inr (.inr i) => .ref (ad i)
abbrev AC : Type := (FieldType × Nat × (Nat → Int32)) ⊕ (Nat × List AV)
abbrev ai (ty : FieldType) (n : Nat) (f : Nat → Int32) : AC := Sum.inl (ty, n, f)
abbrev ao (ci : Nat) (fs : List AV) : AC := Sum.inr (ci, fs)
abbrev MI : Type := MethodName × ByteArray × Nat × Option FieldType × Room
abbrev my (q : MI) : MethodName := q.1
abbrev mb (q : MI) : ByteArray := q.2.1
abbrev ml (q : MI) : Nat := q.2.2.1
abbrev mr (q : MI) : Option FieldType := q.2.2.2.1
abbrev mR (q : MI) : Room := q.2.2.2.2
/-- the words that every method has: all good ones of the tables -/
def Wt : List Cond := lw_tbl.filter goodWord
theorem Wt_good {w : Cond} (h : w ∈ Wt) : (w.onTables && w.keeps) = true ∨ ∃ ty, w = .arrayClass ty := good_of_word (List.mem_filter.mp h).2
theorem Wt_in {w : Cond} (h : w ∈ Wt) : w ∈ lw_tbl := (List.mem_filter.mp h).1
def Ww (q : MI) : List Cond := .code (my q) (mb q) (ml q) (mr q) :: Wt
theorem Ww_good {q : MI} (h : Cond.code (my q) (mb q) (ml q) (mr q) ∈ Wt) : GoodIn Wt (Ww q) := by
  intro w hw
  rcases List.mem_cons.mp hw with rfl | hw
  · exact ⟨h, Wt_good h⟩
  · exact ⟨hw, Wt_good hw⟩
/-- the links between nest mates: these hold at every start -/
def isNest : Cond → Bool
  | .methodLinkNest _ _ _ _ => true
  | _ => false
def Wn : List Cond := tables_1.filter isNest
def NN (U : State) : Prop := ∀ w ∈ Wn, va_Nw w U
theorem Wn_on {w : Cond} (h : w ∈ Wn) : w.onTables = true := by
  have h1 := (List.mem_filter.mp h).2
  cases w <;> first | rfl | simp [isNest] at h1
theorem NN.warm {s U : State} (hW : s.WarmedH U.vm) (h : NN s) : NN U := fun w hw => by
  have h1 := (List.mem_filter.mp hw).2
  have h2 := h w hw
  cases w <;> first | exact va_Nw.warmM hW h2 | simp [isNest] at h1
theorem NN.same {s U : State} (e : s.vm = U.vm) (h : NN s) : NN U := fun w hw => va_Nw.same (Wn_on hw) e (h w hw)
theorem cv_cat (b : Nat) (ad : Nat → Nat) (v : AV) : (cv b ad v).category = 1 := by
  rcases v with x | (_ | _) | i <;> rfl
/-- the heap's cells, by number -/
def hc1 (b : Nat) (ad : Nat → Nat) (ws : va_W) (tys : List (ClassId × FieldType)) (i : Nat) (c : AC) : Prop := match c with
  | .inl (ty, n, f) => ∃ (cA : ClassId) (t0 : Nat), ws[i]? = some (ad i, .inl (cA, n, .inl f)) ∧ tys[t0]? = some (cA, ty)
  | .inr (ci, fs) => ws[i]? = some (ad i, .inr (ci, fs.map (cv b ad)))
def hm (b : Nat) (ad : Nat → Nat) (h : List AC) (ws : va_W) (tys : List (ClassId × FieldType)) : Prop :=
  ws.length = h.length ∧ ∀ (i : Nat) (c : AC), h[i]? = some c → hc1 b ad ws tys i c
/-- the locals -/
def lm (b : Nat) (ad : Nat → Nat) (nL : Nat) (ρ : List (Option AV)) (ls : Array Slot) : Prop :=
  ls.size = nL ∧ lv_wf ls ∧ ∀ (i : Nat) (v : AV), ρ[i]? = some (some v) → ls[i]? = some (.val (cv b ad v))
def lvl (b : Nat) (ad : Nat → Nat) : Nat → List (Option AV) → List (Nat × Value)
  | _, [] => []
  | n, none :: r => lvl b ad (n + 1) r
  | n, some v :: r => (n, cv b ad v) :: lvl b ad (n + 1) r
theorem lvl_mem (b : Nat) (ad : Nat → Nat) : ∀ (ρ : List (Option AV)) (n : Nat) (q : Nat × Value), q ∈ lvl b ad n ρ ↔ ∃ (i : Nat) (v : AV), ρ[i]? = some (some v) ∧ q = (n + i, cv b ad v)
  | [], n, q => by simp [lvl]
  | none :: r, n, q => by
    rw [lvl, lvl_mem b ad r (n + 1) q]
    constructor
    · rintro ⟨i, v, h1, rfl⟩
      exact ⟨i + 1, v, by simpa using h1, by rw [show n + 1 + i = n + (i + 1) by omega]⟩
    · rintro ⟨i, v, h1, rfl⟩
      cases i with
      | zero => simp at h1
      | succ i => exact ⟨i, v, by simpa using h1, by rw [show n + 1 + i = n + (i + 1) by omega]⟩
  | some w :: r, n, q => by
    rw [lvl, List.mem_cons, lvl_mem b ad r (n + 1) q]
    constructor
    · rintro (rfl | ⟨i, v, h1, rfl⟩)
      · exact ⟨0, w, rfl, rfl⟩
      · exact ⟨i + 1, v, by simpa using h1, by rw [show n + 1 + i = n + (i + 1) by omega]⟩
    · rintro ⟨i, v, h1, rfl⟩
      cases i with
      | zero =>
        have h2 : w = v := by simpa using h1
        exact Or.inl (by rw [h2]; rfl)
      | succ i => exact Or.inr ⟨i, v, by simpa using h1, by rw [show n + 1 + i = n + (i + 1) by omega]⟩
theorem lm_has {b : Nat} {ad : Nat → Nat} {nL : Nat} {ρ : List (Option AV)} {ls : Array Slot} (h : lm b ad nL ρ ls) : lv_has ls nL (lvl b ad 0 ρ) := by
  refine ⟨h.1, h.2.1, fun q hq => ?_⟩
  obtain ⟨i, v, h1, rfl⟩ := (lvl_mem b ad ρ 0 q).mp hq
  simpa using h.2.2 i v h1
theorem lm_of_has {b : Nat} {ad : Nat → Nat} {nL : Nat} {ρ ρ' : List (Option AV)} {ls : Array Slot} {i : Nat} {v : AV} (hρ : ρ.set i (some v) = ρ')
    (h : lv_has ls nL ((i, cv b ad v) :: (lvl b ad 0 ρ).filter (fun q => !(q.1 == i) && !(q.1 + 1 == i && q.2.category == 2)))) : lm b ad nL ρ' ls := by
  refine ⟨h.1, h.2.1, fun j w hj => ?_⟩
  subst hρ
  by_cases hij : j = i
  · subst hij
    have hl : j < ρ.length := by
      have := (List.getElem?_eq_some_iff.mp hj).1
      simpa using this
    rw [List.getElem?_set_self hl] at hj
    cases hj
    exact h.2.2 (j, cv b ad v) List.mem_cons_self
  · rw [List.getElem?_set_ne (Ne.symm hij)] at hj
    refine h.2.2 (j, cv b ad w) (List.mem_cons_of_mem _ (List.mem_filter.mpr ⟨(lvl_mem b ad ρ 0 _).mpr ⟨j, w, hj, by simp⟩, ?_⟩))
    simp [cv_cat, hij]
/-- no reference at the number n -/
def okv (n n' : Nat) : AV → Bool
  | .inr (.inr i) => decide (i < n) || decide (n' ≤ i)
  | _ => true
def okc (n n' : Nat) : AC → Bool
  | .inl _ => true
  | .inr (_, fs) => fs.all (okv n n')
def oko (n n' : Nat) : Option AV → Bool
  | none => true
  | some v => okv n n' v
def okS (n n' : Nat) (ρ : List (Option AV)) (st : List AV) (h : List AC) : Bool := ρ.all (oko n n') && st.all (okv n n') && h.all (okc n n')
/-- two address maps that differ between n and n' alone -/
def agr (n n' : Nat) (ad ad' : Nat → Nat) : Prop := ∀ i : Nat, (i < n ∨ n' ≤ i) → ad' i = ad i
theorem agr_cv {n n' b : Nat} {ad ad' : Nat → Nat} (h : agr n n' ad ad') {v : AV} (hv : okv n n' v = true) : cv b ad' v = cv b ad v := by
  rcases v with x | (_ | _) | i
  · rfl
  · rfl
  · rfl
  · show Value.ref (ad' i) = Value.ref (ad i)
    rw [h i (by simpa [okv] using hv)]
theorem agr_map {n n' b : Nat} {ad ad' : Nat → Nat} (h : agr n n' ad ad') {l : List AV} (hv : l.all (okv n n') = true) : l.map (cv b ad') = l.map (cv b ad) :=
  List.map_congr_left fun v hm => agr_cv h (List.all_eq_true.mp hv v hm)
theorem agr_lm {n n' b nL : Nat} {ad ad' : Nat → Nat} (h : agr n n' ad ad') {ρ : List (Option AV)} {ls : Array Slot} (hv : ρ.all (oko n n') = true) (hl : lm b ad nL ρ ls) : lm b ad' nL ρ ls := by
  refine ⟨hl.1, hl.2.1, fun i v hi => ?_⟩
  rw [agr_cv h (List.all_eq_true.mp hv (some v) (List.mem_of_getElem? hi))]
  exact hl.2.2 i v hi
theorem agr_refl {n n' : Nat} (ad : Nat → Nat) : agr n n' ad ad := fun _ _ => rfl
theorem agr_eq {n : Nat} {ad ad' : Nat → Nat} (h : agr n n ad ad') : ad' = ad := funext fun i => h i (by omega)
/-- what holds of the machine at a method's body, whatever the walk -/
def rk (r : Option AV) (i : Instr) : Prop := match r with
  | none => i = .return_
  | some (.inl _) => i = .ireturn
  | some (.inr _) => i = .areturn
def rn (q : MI) (r : Option AV) : Prop := match r with
  | none => mr q = none
  | some (.inl x) => ∃ ty, mr q = some ty ∧ narrow ty (.int x) = .int x
  | some (.inr _) => ∃ rt, mr q = some rt ∧ ((∃ n, rt = .object n) ∨ ∃ t, rt = .array t)
/-- the state: locals, heap, what has changed -/
def St (q : MI) (D : va_G) (b : Nat) (A : Nat → Prop) (s : State) (n0 : Nat) (ad0 ad : Nat → Nat) (h : List AC) (ws : va_W) (tys : List (ClassId × FieldType)) (H : Heap) (locs : List Loc) : Prop :=
  hm b ad h ws tys ∧ va_P D vwCl ws H ∧ va_K D vwCl tys s ∧ va_D A ws ∧ va_S A s.heap H locs ∧ agr n0 h.length ad0 ad ∧ n0 ≤ h.length
def Cx (q : MI) (X : Option (Nat × (Nat → Int32))) (Φ : Option AV → List AC → Prop) (p : Program) (l : Launch) (e : Env) (s : State) (m : MethodId) (args : Array Value) (below : List Frame) (meth : Method) (c : Code) (Q : State → Prop) (D : va_G) (b : Nat) (A : Nat → Prop) (n0 : Nat) (ad0 : Nat → Nat) : Prop :=
  (p.tables.exec = Jvm.exec ∧ c.code = mb q ∧ c.maxLocals = ml q ∧ s.vm.findClass (my q).cls = some m.cls ∧ ∀ w ∈ Wt, w.before args s = true) ∧
  (meth.name = (my q).name ∧ NN s) ∧ (∀ a : Nat, s.heap.size ≤ a → A a) ∧
  (∀ (L : Nat) (xs : Nat → Int32), X = some (L, xs) → va_X b L xs s s.heap ∧ b < s.heap.size ∧ ¬ A b) ∧
  ∀ (r : Option AV) (h' : List AC) (ad' : Nat → Nat) (ws' : va_W) (tys' : List (ClassId × FieldType)) (H' : Heap) (locs' : List Loc) (pc' : Nat) (ls' : Array Slot) (cu su : Nat) (i : Instr), Φ r h' → St q D b A s n0 ad0 ad' h' ws' tys' H' locs' → cu ≤ (mR q).cells → su ≤ (mR q).slots →
    decode (mb q) pc' = .ok (i, 1) → rk r i → rn q r → W p l e (mR q) s m args below meth c H' locs' cu su Q (F0 m pc' ls' (r.toList.map (cv b ad')))
/-- FROM HERE, with locals ρ, stack st, heap h, cells and slots used: the method ends with Φ -/
def Ev (q : MI) (X : Option (Nat × (Nat → Int32))) (Φ : Option AV → List AC → Prop) (pc : Nat) (ρ : List (Option AV)) (st : List AV) (h : List AC) (cu su : Nat) : Prop :=
  ∀ (p : Program) (l : Launch) (e : Env) (s : State) (m : MethodId) (args : Array Value) (below : List Frame) (meth : Method) (c : Code) (Q : State → Prop) (D : va_G) (b : Nat) (A : Nat → Prop) (n0 : Nat) (ad0 : Nat → Nat),
    Cx q X Φ p l e s m args below meth c Q D b A n0 ad0 → ∀ (ad : Nat → Nat) (ws : va_W) (tys : List (ClassId × FieldType)) (H : Heap) (locs : List Loc) (ls : Array Slot), lm b ad (ml q) ρ ls → St q D b A s n0 ad0 ad h ws tys H locs →
    W p l e (mR q) s m args below meth c H locs cu su Q (F0 m pc ls (st.map (cv b ad)))
/-- a method's contract: from the values avs and the heap h it ends with Φ -/
def QM (D : va_G) (b : Nat) (ad : Nat → Nat) (n : Nat) (Φ : Option AV → List AC → Prop) (A : Nat → Prop) : Array Value → State → Outcome → State → Prop := fun _ st oc t =>
  (∃ (r : Option AV) (h' : List AC) (ad' : Nat → Nat) (ws' : va_W) (tys' : List (ClassId × FieldType)), oc = .returned (r.map (cv b ad')) ∧ Φ r h' ∧ agr n h'.length ad ad' ∧ n ≤ h'.length ∧ hm b ad' h' ws' tys' ∧ va_P D vwCl ws' t.heap ∧ va_K D vwCl tys' t ∧ va_D A ws') ∧ va_F A st t
def EvM (q : MI) (avs : List AV) (h : List AC) (Φ : Option AV → List AC → Prop) : Prop :=
  ∀ (l : Launch) (D : va_G) (b : Nat) (ad : Nat → Nat) (ws : va_W) (tys : List (ClassId × FieldType)) (sz : Nat), hm b ad h ws tys →
    Met l (my q) (Ww q) (mR q) (va_Pc (avs.map (cv b ad)) (fun U => U.heap.size = sz ∧ va_P D vwCl ws U.heap ∧ va_K D vwCl tys U ∧ va_D (fun _ => True) ws ∧ NN U))
      (QM D b ad h.length Φ (va_A ws sz)) (mR q).cells (mR q).slots (va_A ws sz)
end
section
theorem lg_sl_cv (b : Nat) (ad : Nat → Nat) (avs : List AV) : lg_sl (avs.map (cv b ad)) = avs.map (fun v => Slot.val (cv b ad v)) := by
  induction avs with
  | nil => rfl
  | cons v t ih =>
    have e : lg_sl ((v :: t).map (cv b ad)) = Slot.val (cv b ad v) :: lg_sl (t.map (cv b ad)) := by
      simp [lg_sl, cv_cat]
    rw [e, ih]
    rfl
theorem lv_args_cv (b : Nat) (ad : Nat → Nat) : ∀ (avs : List AV) (n i : Nat) (v : AV), avs[i]? = some v → (n + i, cv b ad v) ∈ lv_args n (avs.map (cv b ad))
  | [], n, i, v, h => by simp at h
  | w :: t, n, i, v, h => by
    have e : lv_args n ((w :: t).map (cv b ad)) = (n, cv b ad w) :: lv_args (n + 1) (t.map (cv b ad)) := by
      simp [lv_args, cv_cat]
    rw [e]
    cases i with
    | zero =>
      have h2 : w = v := by simpa using h
      rw [h2]
      exact List.mem_cons_self
    | succ i =>
      rw [show n + (i + 1) = (n + 1) + i by omega]
      exact List.mem_cons_of_mem _ (lv_args_cv b ad t (n + 1) i v (by simpa using h))
theorem EvM.of {q : MI} {avs : List AV} {h : List AC} {Φ : Option AV → List AC → Prop} (hy : plainName (my q).cls = true) (hn : avs.length ≤ ml q)
    (k : Ev q none Φ 0 (avs.map some ++ List.replicate (ml q - avs.length) none) [] h 0 0) : EvM q avs h Φ := by
  intro l D b ad ws tys sz hM
  refine Met.ofW (cc := mb q) (maxL := ml q) (ret := mr q) hy rfl ?_
  intro p e s m args below meth c s₁ B hml hv
  obtain ⟨rfl, hsz, hP, hK, hD0, hNN⟩ := hv
  subst hsz
  have hts := atoms_spec (ws := Ww q) B.pre
  have hl0 := lv_entry (avs.map (cv b ad)) (n := ml q) (by rw [lg_sl_cv]; simpa using hn)
  rw [lg_entry_eq]
  generalize (lg_sl (avs.map (cv b ad)) ++ List.replicate (ml q - (lg_sl (avs.map (cv b ad))).length) Slot.unset).toArray = ls at hl0 ⊢
  refine k p l e s m _ below meth c _ D b (va_A ws s.heap.size) h.length ad ⟨⟨B.exec, B.bytes, hml, findClass_of_methodNamed B.named, fun w hw => hts w (List.mem_cons_of_mem _ hw)⟩, ⟨(name_of_methodNamed B.named B.method).1, hNN⟩, fun a ha => Or.inr ha, (fun L xs hX => by cases hX), ?_⟩ ad ws tys s.heap [] ls ?_ ?_
  · intro r h' ad' ws' tys' H' locs' pc' ls' cu su i hΦ hSt hcu hsu hd hrk hrn
    obtain ⟨hM', hP', hK', hD', hS', hag, hle⟩ := hSt
    refine W.widen hcu hsu ?_
    have hq : ∀ t : State, t.heap = H' → s.WarmedH t.vm → QM D b ad h.length Φ (va_A ws s.heap.size) (avs.map (cv b ad)).toArray s (.returned (r.map (cv b ad'))) t := fun t ht hW => ⟨⟨r, h', ad', ws', tys', rfl, hΦ, hag, hle, hM', by rw [ht]; exact hP', va_K.moved hW.alike hK', hD'⟩, hS'.F ht⟩
    have hret := B.returns
    have hlk := B.notSynchronized
    rcases r with _ | (x | v)
    · obtain rfl : i = .return_ := hrk
      exact W.vret B.exec B.bytes (hret.trans hrn) hq hS'.2.2 hd hlk
    · obtain rfl : i = .ireturn := hrk
      obtain ⟨ty, h1, h2⟩ := hrn
      exact W.zret B.exec B.bytes (hret.trans h1) h2 hq hS'.2.2 hd hlk
    · obtain rfl : i = .areturn := hrk
      obtain ⟨rt, h1, h2⟩ := hrn
      refine W.aret B.exec B.bytes (hret.trans h1) h2 ?_ hq hS'.2.2 hd hlk
      rcases v with (_ | _) | i
      · exact Or.inl rfl
      · exact Or.inr ⟨_, rfl⟩
      · exact Or.inr ⟨_, rfl⟩
  · refine ⟨hl0.1, hl0.2.1, fun i v hi => ?_⟩
    have hlt : i < avs.length := by
      rcases Nat.lt_or_ge i avs.length with g | g
      · exact g
      · rw [List.getElem?_append_right (by simpa using g)] at hi
        have := List.mem_of_getElem? hi
        simp at this
    rw [List.getElem?_append_left (by simpa using hlt), List.getElem?_map] at hi
    have h2 : avs[i]? = some v := by
      cases hz : avs[i]? with
      | none => rw [hz] at hi; simp at hi
      | some z => rw [hz] at hi; simpa using hi
    exact hl0.2.2 (i, cv b ad v) (by simpa using lv_args_cv b ad avs 0 i v h2)
  · exact ⟨hM, hP, hK, hD0.self, va_S.rf, agr_refl ad, Nat.le_refl _⟩
section EvRows
variable {q : MI} {X : Option (Nat × (Nat → Int32))} {Φ : Option AV → List AC → Prop} {pc : Nat} {ρ : List (Option AV)} {st : List AV} {h : List AC} {cu su : Nat}

theorem Ev.iadd {x y : Int32} (hd : decode (mb q) pc = .ok (.iadd, 1)) (k : Ev q X Φ (pc + 1) ρ (vi (x + y) :: st) h cu su) : Ev q X Φ pc ρ (vi y :: vi x :: st) h cu su := fun p l e s m args below meth c Q D b A n0 ad0 C ad ws tys H locs ls L S => lv_iadd C.1.1 C.1.2.1 hd (k p l e s m args below meth c Q D b A n0 ad0 C ad ws tys H locs ls L S)
theorem Ev.isub {x y : Int32} (hd : decode (mb q) pc = .ok (.isub, 1)) (k : Ev q X Φ (pc + 1) ρ (vi (x - y) :: st) h cu su) : Ev q X Φ pc ρ (vi y :: vi x :: st) h cu su := fun p l e s m args below meth c Q D b A n0 ad0 C ad ws tys H locs ls L S => lv_isub C.1.1 C.1.2.1 hd (k p l e s m args below meth c Q D b A n0 ad0 C ad ws tys H locs ls L S)
theorem Ev.imul {x y : Int32} (hd : decode (mb q) pc = .ok (.imul, 1)) (k : Ev q X Φ (pc + 1) ρ (vi (x * y) :: st) h cu su) : Ev q X Φ pc ρ (vi y :: vi x :: st) h cu su := fun p l e s m args below meth c Q D b A n0 ad0 C ad ws tys H locs ls L S => lv_imul C.1.1 C.1.2.1 hd (k p l e s m args below meth c Q D b A n0 ad0 C ad ws tys H locs ls L S)
theorem Ev.iand {x y : Int32} (hd : decode (mb q) pc = .ok (.iand, 1)) (k : Ev q X Φ (pc + 1) ρ (vi (x &&& y) :: st) h cu su) : Ev q X Φ pc ρ (vi y :: vi x :: st) h cu su := fun p l e s m args below meth c Q D b A n0 ad0 C ad ws tys H locs ls L S => lv_iand C.1.1 C.1.2.1 hd (k p l e s m args below meth c Q D b A n0 ad0 C ad ws tys H locs ls L S)
theorem Ev.ior {x y : Int32} (hd : decode (mb q) pc = .ok (.ior, 1)) (k : Ev q X Φ (pc + 1) ρ (vi (x ||| y) :: st) h cu su) : Ev q X Φ pc ρ (vi y :: vi x :: st) h cu su := fun p l e s m args below meth c Q D b A n0 ad0 C ad ws tys H locs ls L S => lv_ior C.1.1 C.1.2.1 hd (k p l e s m args below meth c Q D b A n0 ad0 C ad ws tys H locs ls L S)
theorem Ev.ixor {x y : Int32} (hd : decode (mb q) pc = .ok (.ixor, 1)) (k : Ev q X Φ (pc + 1) ρ (vi (x ^^^ y) :: st) h cu su) : Ev q X Φ pc ρ (vi y :: vi x :: st) h cu su := fun p l e s m args below meth c Q D b A n0 ad0 C ad ws tys H locs ls L S => lv_ixor C.1.1 C.1.2.1 hd (k p l e s m args below meth c Q D b A n0 ad0 C ad ws tys H locs ls L S)
theorem Ev.ishl {x y : Int32} (hd : decode (mb q) pc = .ok (.ishl, 1)) (k : Ev q X Φ (pc + 1) ρ (vi (x <<< (y &&& 31)) :: st) h cu su) : Ev q X Φ pc ρ (vi y :: vi x :: st) h cu su := fun p l e s m args below meth c Q D b A n0 ad0 C ad ws tys H locs ls L S => lv_ishl C.1.1 C.1.2.1 hd (k p l e s m args below meth c Q D b A n0 ad0 C ad ws tys H locs ls L S)
theorem Ev.ishr {x y : Int32} (hd : decode (mb q) pc = .ok (.ishr, 1)) (k : Ev q X Φ (pc + 1) ρ (vi (x >>> (y &&& 31)) :: st) h cu su) : Ev q X Φ pc ρ (vi y :: vi x :: st) h cu su := fun p l e s m args below meth c Q D b A n0 ad0 C ad ws tys H locs ls L S => lv_ishr C.1.1 C.1.2.1 hd (k p l e s m args below meth c Q D b A n0 ad0 C ad ws tys H locs ls L S)
theorem Ev.idiv {x y : Int32} (hd : decode (mb q) pc = .ok (.idiv, 1)) (hne : ¬ y = 0) (k : Ev q X Φ (pc + 1) ρ (vi (x / y) :: st) h cu su) : Ev q X Φ pc ρ (vi y :: vi x :: st) h cu su := fun p l e s m args below meth c Q D b A n0 ad0 C ad ws tys H locs ls L S => lv_idiv C.1.1 C.1.2.1 hd hne (k p l e s m args below meth c Q D b A n0 ad0 C ad ws tys H locs ls L S)
theorem Ev.irem {x y : Int32} (hd : decode (mb q) pc = .ok (.irem, 1)) (hne : ¬ y = 0) (k : Ev q X Φ (pc + 1) ρ (vi (x - x / y * y) :: st) h cu su) : Ev q X Φ pc ρ (vi y :: vi x :: st) h cu su := fun p l e s m args below meth c Q D b A n0 ad0 C ad ws tys H locs ls L S => lv_irem C.1.1 C.1.2.1 hd hne (k p l e s m args below meth c Q D b A n0 ad0 C ad ws tys H locs ls L S)
theorem Ev.iushr {x y v : Int32} (hd : decode (mb q) pc = .ok (.iushr, 1)) (hv : (x.toUInt32 >>> (y.toUInt32 &&& Int32.toUInt32 31)).toInt32 = v) (k : Ev q X Φ (pc + 1) ρ (vi v :: st) h cu su) : Ev q X Φ pc ρ (vi y :: vi x :: st) h cu su := fun p l e s m args below meth c Q D b A n0 ad0 C ad ws tys H locs ls L S => lv_iushr C.1.1 C.1.2.1 hd hv (k p l e s m args below meth c Q D b A n0 ad0 C ad ws tys H locs ls L S)
theorem Ev.ineg {x : Int32} (hd : decode (mb q) pc = .ok (.ineg, 1)) (k : Ev q X Φ (pc + 1) ρ (vi (-x) :: st) h cu su) : Ev q X Φ pc ρ (vi x :: st) h cu su := fun p l e s m args below meth c Q D b A n0 ad0 C ad ws tys H locs ls L S => lv_ineg C.1.1 C.1.2.1 hd (k p l e s m args below meth c Q D b A n0 ad0 C ad ws tys H locs ls L S)
theorem Ev.iconst {n : Int} {v : Int32} (hd : decode (mb q) pc = .ok (.iconst n, 1)) (hv : Int32.ofInt n = v) (k : Ev q X Φ (pc + 1) ρ (vi v :: st) h cu su) : Ev q X Φ pc ρ (st) h cu su := fun p l e s m args below meth c Q D b A n0 ad0 C ad ws tys H locs ls L S => lv_iconst C.1.1 C.1.2.1 hd hv (k p l e s m args below meth c Q D b A n0 ad0 C ad ws tys H locs ls L S)
theorem Ev.bipush {n : Int} {v : Int32} (hd : decode (mb q) pc = .ok (.bipush n, 2)) (hv : (Int8.ofInt n).toInt32 = v) (k : Ev q X Φ (pc + 2) ρ (vi v :: st) h cu su) : Ev q X Φ pc ρ (st) h cu su := fun p l e s m args below meth c Q D b A n0 ad0 C ad ws tys H locs ls L S => lv_bipush C.1.1 C.1.2.1 hd hv (k p l e s m args below meth c Q D b A n0 ad0 C ad ws tys H locs ls L S)
theorem Ev.sipush {n : Int} {v : Int32} (hd : decode (mb q) pc = .ok (.sipush n, 3)) (hv : (Int16.ofInt n).toInt32 = v) (k : Ev q X Φ (pc + 3) ρ (vi v :: st) h cu su) : Ev q X Φ pc ρ (st) h cu su := fun p l e s m args below meth c Q D b A n0 ad0 C ad ws tys H locs ls L S => lv_sipush C.1.1 C.1.2.1 hd hv (k p l e s m args below meth c Q D b A n0 ad0 C ad ws tys H locs ls L S)
theorem Ev.ldc {n : Nat} {v : Int32} (hd : decode (mb q) pc = .ok (.ldc n, 2)) (hv : Cond.constant (my q).cls n v ∈ Wt) (k : Ev q X Φ (pc + 2) ρ (vi v :: st) h cu su) : Ev q X Φ pc ρ (st) h cu su := fun p l e s m args below meth c Q D b A n0 ad0 C ad ws tys H locs ls L S => lv_ldc C.1.1 C.1.2.1 C.1.2.2.2.1 (C.1.2.2.2.2 _ hv) hd (k p l e s m args below meth c Q D b A n0 ad0 C ad ws tys H locs ls L S)
theorem Ev.iload_n {k4 : Fin 4} {x : Int32} (hd : decode (mb q) pc = .ok (.iload_n k4, 1)) (hl : ρ[(k4 : Nat)]? = some (some (vi x))) (k : Ev q X Φ (pc + 1) ρ (vi x :: st) h cu su) : Ev q X Φ pc ρ (st) h cu su := fun p l e s m args below meth c Q D b A n0 ad0 C ad ws tys H locs ls L S => lv_iload_n C.1.1 C.1.2.1 hd rfl (L.2.2 _ _ hl) (k p l e s m args below meth c Q D b A n0 ad0 C ad ws tys H locs ls L S)
theorem Ev.iload {i : Nat} {x : Int32} (hd : decode (mb q) pc = .ok (.iload i, 2)) (hl : ρ[i]? = some (some (vi x))) (k : Ev q X Φ (pc + 2) ρ (vi x :: st) h cu su) : Ev q X Φ pc ρ (st) h cu su := fun p l e s m args below meth c Q D b A n0 ad0 C ad ws tys H locs ls L S => lv_iload C.1.1 C.1.2.1 hd (L.2.2 _ _ hl) (k p l e s m args below meth c Q D b A n0 ad0 C ad ws tys H locs ls L S)
theorem Ev.aload_n {k4 : Fin 4} {x : Nat} (hd : decode (mb q) pc = .ok (.aload_n k4, 1)) (hl : ρ[(k4 : Nat)]? = some (some (vr x))) (k : Ev q X Φ (pc + 1) ρ (vr x :: st) h cu su) : Ev q X Φ pc ρ (st) h cu su := fun p l e s m args below meth c Q D b A n0 ad0 C ad ws tys H locs ls L S => lv_aload_n C.1.1 C.1.2.1 hd rfl (L.2.2 _ _ hl) (k p l e s m args below meth c Q D b A n0 ad0 C ad ws tys H locs ls L S)
theorem Ev.aload {i : Nat} {x : Nat} (hd : decode (mb q) pc = .ok (.aload i, 2)) (hl : ρ[i]? = some (some (vr x))) (k : Ev q X Φ (pc + 2) ρ (vr x :: st) h cu su) : Ev q X Φ pc ρ (st) h cu su := fun p l e s m args below meth c Q D b A n0 ad0 C ad ws tys H locs ls L S => lv_aload C.1.1 C.1.2.1 hd (L.2.2 _ _ hl) (k p l e s m args below meth c Q D b A n0 ad0 C ad ws tys H locs ls L S)
theorem Ev.aloadS_n {k4 : Fin 4} (hd : decode (mb q) pc = .ok (.aload_n k4, 1)) (hl : ρ[(k4 : Nat)]? = some (some vs)) (k : Ev q X Φ (pc + 1) ρ (vs :: st) h cu su) : Ev q X Φ pc ρ (st) h cu su := fun p l e s m args below meth c Q D b A n0 ad0 C ad ws tys H locs ls L S => lv_aload_n C.1.1 C.1.2.1 hd rfl (L.2.2 _ _ hl) (k p l e s m args below meth c Q D b A n0 ad0 C ad ws tys H locs ls L S)
theorem Ev.istore_n {k4 : Fin 4} {x : Int32} {ρ' : List (Option AV)} (hd : decode (mb q) pc = .ok (.istore_n k4, 1)) (hl : (k4 : Nat) < ml q) (hρ : ρ.set (k4 : Nat) (some (vi x)) = ρ') (k : Ev q X Φ (pc + 1) ρ' st h cu su) : Ev q X Φ pc ρ (vi x :: st) h cu su := by
  intro p l e s m args below meth c Q D b A n0 ad0 C ad ws tys H locs ls L S
  refine lv_istore_n C.1.1 C.1.2.1 hd rfl (lm_has L) hl rfl (fun ls' hl' => ?_)
  exact k p l e s m args below meth c Q D b A n0 ad0 C ad ws tys H locs ls' (lm_of_has hρ hl') S
theorem Ev.istore {i : Nat} {x : Int32} {ρ' : List (Option AV)} (hd : decode (mb q) pc = .ok (.istore i, 2)) (hl : i < ml q) (hρ : ρ.set i (some (vi x)) = ρ') (k : Ev q X Φ (pc + 2) ρ' st h cu su) : Ev q X Φ pc ρ (vi x :: st) h cu su := by
  intro p l e s m args below meth c Q D b A n0 ad0 C ad ws tys H locs ls L S
  refine lv_istore C.1.1 C.1.2.1 hd (lm_has L) hl rfl (fun ls' hl' => ?_)
  exact k p l e s m args below meth c Q D b A n0 ad0 C ad ws tys H locs ls' (lm_of_has hρ hl') S
theorem Ev.astore_n {k4 : Fin 4} {x : Nat} {ρ' : List (Option AV)} (hd : decode (mb q) pc = .ok (.astore_n k4, 1)) (hl : (k4 : Nat) < ml q) (hρ : ρ.set (k4 : Nat) (some (vr x)) = ρ') (k : Ev q X Φ (pc + 1) ρ' st h cu su) : Ev q X Φ pc ρ (vr x :: st) h cu su := by
  intro p l e s m args below meth c Q D b A n0 ad0 C ad ws tys H locs ls L S
  refine lv_astore_n C.1.1 C.1.2.1 hd rfl (lm_has L) hl rfl (fun ls' hl' => ?_)
  exact k p l e s m args below meth c Q D b A n0 ad0 C ad ws tys H locs ls' (lm_of_has hρ hl') S
theorem Ev.astore {i : Nat} {x : Nat} {ρ' : List (Option AV)} (hd : decode (mb q) pc = .ok (.astore i, 2)) (hl : i < ml q) (hρ : ρ.set i (some (vr x)) = ρ') (k : Ev q X Φ (pc + 2) ρ' st h cu su) : Ev q X Φ pc ρ (vr x :: st) h cu su := by
  intro p l e s m args below meth c Q D b A n0 ad0 C ad ws tys H locs ls L S
  refine lv_astore C.1.1 C.1.2.1 hd (lm_has L) hl rfl (fun ls' hl' => ?_)
  exact k p l e s m args below meth c Q D b A n0 ad0 C ad ws tys H locs ls' (lm_of_has hρ hl') S
theorem Ev.iinc {i : Nat} {n : Int} {x v : Int32} {ρ' : List (Option AV)} (hd : decode (mb q) pc = .ok (.iinc i n, 3)) (hx : ρ[i]? = some (some (vi x))) (hl : i < ml q) (hv : x + Int32.ofInt n = v) (hρ : ρ.set i (some (vi v)) = ρ') (k : Ev q X Φ (pc + 3) ρ' st h cu su) : Ev q X Φ pc ρ st h cu su := by
  intro p l e s m args below meth c Q D b A n0 ad0 C ad ws tys H locs ls L S
  have hmem : ((i, Value.int x) : Nat × Value) ∈ lvl b ad 0 ρ := (lvl_mem b ad ρ 0 _).mpr ⟨i, vi x, hx, by simp [cv]⟩
  obtain ⟨kk, hkk⟩ := List.getElem?_of_mem hmem
  refine lv_iinc C.1.1 C.1.2.1 hd (lm_has L) hkk hv hl rfl (fun ls' hl' => ?_)
  exact k p l e s m args below meth c Q D b A n0 ad0 C ad ws tys H locs ls' (lm_of_has hρ hl') S
theorem Ev.dup {v : AV} (hd : decode (mb q) pc = .ok (.dup, 1)) (k : Ev q X Φ (pc + 1) ρ (v :: v :: st) h cu su) : Ev q X Φ pc ρ (v :: st) h cu su := fun p l e s m args below meth c Q D b A n0 ad0 C ad ws tys H locs ls L S => lv_dup C.1.1 C.1.2.1 hd (cv_cat b ad v) (k p l e s m args below meth c Q D b A n0 ad0 C ad ws tys H locs ls L S)
theorem Ev.pop {v : AV} (hd : decode (mb q) pc = .ok (.pop, 1)) (k : Ev q X Φ (pc + 1) ρ (st) h cu su) : Ev q X Φ pc ρ (v :: st) h cu su := fun p l e s m args below meth c Q D b A n0 ad0 C ad ws tys H locs ls L S => lv_pop C.1.1 C.1.2.1 hd (cv_cat b ad v) (k p l e s m args below meth c Q D b A n0 ad0 C ad ws tys H locs ls L S)
theorem Ev.dup_x1 {v w : AV} (hd : decode (mb q) pc = .ok (.dup_x1, 1)) (k : Ev q X Φ (pc + 1) ρ (v :: w :: v :: st) h cu su) : Ev q X Φ pc ρ (v :: w :: st) h cu su := fun p l e s m args below meth c Q D b A n0 ad0 C ad ws tys H locs ls L S => lv_dup_x1 C.1.1 C.1.2.1 hd (cv_cat b ad v) (cv_cat b ad w) (k p l e s m args below meth c Q D b A n0 ad0 C ad ws tys H locs ls L S)
theorem Ev.dup_x2 {v w u : AV} (hd : decode (mb q) pc = .ok (.dup_x2, 1)) (k : Ev q X Φ (pc + 1) ρ (v :: w :: u :: v :: st) h cu su) : Ev q X Φ pc ρ (v :: w :: u :: st) h cu su := fun p l e s m args below meth c Q D b A n0 ad0 C ad ws tys H locs ls L S => lv_dup_x2 C.1.1 C.1.2.1 hd (cv_cat b ad v) (cv_cat b ad w) (cv_cat b ad u) (k p l e s m args below meth c Q D b A n0 ad0 C ad ws tys H locs ls L S)
theorem Ev.dup2 {v w : AV} (hd : decode (mb q) pc = .ok (.dup2, 1)) (k : Ev q X Φ (pc + 1) ρ (v :: w :: v :: w :: st) h cu su) : Ev q X Φ pc ρ (v :: w :: st) h cu su := fun p l e s m args below meth c Q D b A n0 ad0 C ad ws tys H locs ls L S => lv_dup2_11 C.1.1 C.1.2.1 hd (cv_cat b ad v) (cv_cat b ad w) (k p l e s m args below meth c Q D b A n0 ad0 C ad ws tys H locs ls L S)
theorem Ev.null (hd : decode (mb q) pc = .ok (.aconst_null, 1)) (k : Ev q X Φ (pc + 1) ρ (vn :: st) h cu su) : Ev q X Φ pc ρ (st) h cu su := fun p l e s m args below meth c Q D b A n0 ad0 C ad ws tys H locs ls L S => lv_null C.1.1 C.1.2.1 hd (k p l e s m args below meth c Q D b A n0 ad0 C ad ws tys H locs ls L S)
theorem Ev.if_eq {x : Int32} {off : Int} {tgt : Nat} (hd : decode (mb q) pc = .ok (.ifCond .eq off, 3)) (ht : (pc : Int) + off = (tgt : Int)) (kt : x = 0 → Ev q X Φ tgt ρ st h cu su) (kf : ¬ x = 0 → Ev q X Φ (pc + 3) ρ st h cu su) : Ev q X Φ pc ρ (vi x :: st) h cu su := fun p l e s m args below meth c Q D b A n0 ad0 C ad ws tys H locs ls L S => lv_if_eq C.1.1 C.1.2.1 hd ht (fun g => kt g p l e s m args below meth c Q D b A n0 ad0 C ad ws tys H locs ls L S) (fun g => kf g p l e s m args below meth c Q D b A n0 ad0 C ad ws tys H locs ls L S)
theorem Ev.if_ne {x : Int32} {off : Int} {tgt : Nat} (hd : decode (mb q) pc = .ok (.ifCond .ne off, 3)) (ht : (pc : Int) + off = (tgt : Int)) (kt : ¬ x = 0 → Ev q X Φ tgt ρ st h cu su) (kf : x = 0 → Ev q X Φ (pc + 3) ρ st h cu su) : Ev q X Φ pc ρ (vi x :: st) h cu su := fun p l e s m args below meth c Q D b A n0 ad0 C ad ws tys H locs ls L S => lv_if_ne C.1.1 C.1.2.1 hd ht (fun g => kt g p l e s m args below meth c Q D b A n0 ad0 C ad ws tys H locs ls L S) (fun g => kf g p l e s m args below meth c Q D b A n0 ad0 C ad ws tys H locs ls L S)
theorem Ev.if_lt {x : Int32} {off : Int} {tgt : Nat} (hd : decode (mb q) pc = .ok (.ifCond .lt off, 3)) (ht : (pc : Int) + off = (tgt : Int)) (kt : x < 0 → Ev q X Φ tgt ρ st h cu su) (kf : ¬ x < 0 → Ev q X Φ (pc + 3) ρ st h cu su) : Ev q X Φ pc ρ (vi x :: st) h cu su := fun p l e s m args below meth c Q D b A n0 ad0 C ad ws tys H locs ls L S => lv_if_lt C.1.1 C.1.2.1 hd ht (fun g => kt g p l e s m args below meth c Q D b A n0 ad0 C ad ws tys H locs ls L S) (fun g => kf g p l e s m args below meth c Q D b A n0 ad0 C ad ws tys H locs ls L S)
theorem Ev.if_ge {x : Int32} {off : Int} {tgt : Nat} (hd : decode (mb q) pc = .ok (.ifCond .ge off, 3)) (ht : (pc : Int) + off = (tgt : Int)) (kt : 0 ≤ x → Ev q X Φ tgt ρ st h cu su) (kf : ¬ 0 ≤ x → Ev q X Φ (pc + 3) ρ st h cu su) : Ev q X Φ pc ρ (vi x :: st) h cu su := fun p l e s m args below meth c Q D b A n0 ad0 C ad ws tys H locs ls L S => lv_if_ge C.1.1 C.1.2.1 hd ht (fun g => kt g p l e s m args below meth c Q D b A n0 ad0 C ad ws tys H locs ls L S) (fun g => kf g p l e s m args below meth c Q D b A n0 ad0 C ad ws tys H locs ls L S)
theorem Ev.if_gt {x : Int32} {off : Int} {tgt : Nat} (hd : decode (mb q) pc = .ok (.ifCond .gt off, 3)) (ht : (pc : Int) + off = (tgt : Int)) (kt : 0 < x → Ev q X Φ tgt ρ st h cu su) (kf : ¬ 0 < x → Ev q X Φ (pc + 3) ρ st h cu su) : Ev q X Φ pc ρ (vi x :: st) h cu su := fun p l e s m args below meth c Q D b A n0 ad0 C ad ws tys H locs ls L S => lv_if_gt C.1.1 C.1.2.1 hd ht (fun g => kt g p l e s m args below meth c Q D b A n0 ad0 C ad ws tys H locs ls L S) (fun g => kf g p l e s m args below meth c Q D b A n0 ad0 C ad ws tys H locs ls L S)
theorem Ev.if_le {x : Int32} {off : Int} {tgt : Nat} (hd : decode (mb q) pc = .ok (.ifCond .le off, 3)) (ht : (pc : Int) + off = (tgt : Int)) (kt : x ≤ 0 → Ev q X Φ tgt ρ st h cu su) (kf : ¬ x ≤ 0 → Ev q X Φ (pc + 3) ρ st h cu su) : Ev q X Φ pc ρ (vi x :: st) h cu su := fun p l e s m args below meth c Q D b A n0 ad0 C ad ws tys H locs ls L S => lv_if_le C.1.1 C.1.2.1 hd ht (fun g => kt g p l e s m args below meth c Q D b A n0 ad0 C ad ws tys H locs ls L S) (fun g => kf g p l e s m args below meth c Q D b A n0 ad0 C ad ws tys H locs ls L S)
theorem Ev.icmp_eq {x y : Int32} {off : Int} {tgt : Nat} (hd : decode (mb q) pc = .ok (.if_icmp .eq off, 3)) (ht : (pc : Int) + off = (tgt : Int)) (kt : x = y → Ev q X Φ tgt ρ st h cu su) (kf : ¬ x = y → Ev q X Φ (pc + 3) ρ st h cu su) : Ev q X Φ pc ρ (vi y :: vi x :: st) h cu su := fun p l e s m args below meth c Q D b A n0 ad0 C ad ws tys H locs ls L S => lv_icmp_eq C.1.1 C.1.2.1 hd ht (fun g => kt g p l e s m args below meth c Q D b A n0 ad0 C ad ws tys H locs ls L S) (fun g => kf g p l e s m args below meth c Q D b A n0 ad0 C ad ws tys H locs ls L S)
theorem Ev.icmp_ne {x y : Int32} {off : Int} {tgt : Nat} (hd : decode (mb q) pc = .ok (.if_icmp .ne off, 3)) (ht : (pc : Int) + off = (tgt : Int)) (kt : ¬ x = y → Ev q X Φ tgt ρ st h cu su) (kf : x = y → Ev q X Φ (pc + 3) ρ st h cu su) : Ev q X Φ pc ρ (vi y :: vi x :: st) h cu su := fun p l e s m args below meth c Q D b A n0 ad0 C ad ws tys H locs ls L S => lv_icmp_ne C.1.1 C.1.2.1 hd ht (fun g => kt g p l e s m args below meth c Q D b A n0 ad0 C ad ws tys H locs ls L S) (fun g => kf g p l e s m args below meth c Q D b A n0 ad0 C ad ws tys H locs ls L S)
theorem Ev.icmp_lt {x y : Int32} {off : Int} {tgt : Nat} (hd : decode (mb q) pc = .ok (.if_icmp .lt off, 3)) (ht : (pc : Int) + off = (tgt : Int)) (kt : x < y → Ev q X Φ tgt ρ st h cu su) (kf : ¬ x < y → Ev q X Φ (pc + 3) ρ st h cu su) : Ev q X Φ pc ρ (vi y :: vi x :: st) h cu su := fun p l e s m args below meth c Q D b A n0 ad0 C ad ws tys H locs ls L S => lv_icmp_lt C.1.1 C.1.2.1 hd ht (fun g => kt g p l e s m args below meth c Q D b A n0 ad0 C ad ws tys H locs ls L S) (fun g => kf g p l e s m args below meth c Q D b A n0 ad0 C ad ws tys H locs ls L S)
theorem Ev.icmp_ge {x y : Int32} {off : Int} {tgt : Nat} (hd : decode (mb q) pc = .ok (.if_icmp .ge off, 3)) (ht : (pc : Int) + off = (tgt : Int)) (kt : y ≤ x → Ev q X Φ tgt ρ st h cu su) (kf : ¬ y ≤ x → Ev q X Φ (pc + 3) ρ st h cu su) : Ev q X Φ pc ρ (vi y :: vi x :: st) h cu su := fun p l e s m args below meth c Q D b A n0 ad0 C ad ws tys H locs ls L S => lv_icmp_ge C.1.1 C.1.2.1 hd ht (fun g => kt g p l e s m args below meth c Q D b A n0 ad0 C ad ws tys H locs ls L S) (fun g => kf g p l e s m args below meth c Q D b A n0 ad0 C ad ws tys H locs ls L S)
theorem Ev.icmp_gt {x y : Int32} {off : Int} {tgt : Nat} (hd : decode (mb q) pc = .ok (.if_icmp .gt off, 3)) (ht : (pc : Int) + off = (tgt : Int)) (kt : y < x → Ev q X Φ tgt ρ st h cu su) (kf : ¬ y < x → Ev q X Φ (pc + 3) ρ st h cu su) : Ev q X Φ pc ρ (vi y :: vi x :: st) h cu su := fun p l e s m args below meth c Q D b A n0 ad0 C ad ws tys H locs ls L S => lv_icmp_gt C.1.1 C.1.2.1 hd ht (fun g => kt g p l e s m args below meth c Q D b A n0 ad0 C ad ws tys H locs ls L S) (fun g => kf g p l e s m args below meth c Q D b A n0 ad0 C ad ws tys H locs ls L S)
theorem Ev.icmp_le {x y : Int32} {off : Int} {tgt : Nat} (hd : decode (mb q) pc = .ok (.if_icmp .le off, 3)) (ht : (pc : Int) + off = (tgt : Int)) (kt : x ≤ y → Ev q X Φ tgt ρ st h cu su) (kf : ¬ x ≤ y → Ev q X Φ (pc + 3) ρ st h cu su) : Ev q X Φ pc ρ (vi y :: vi x :: st) h cu su := fun p l e s m args below meth c Q D b A n0 ad0 C ad ws tys H locs ls L S => lv_icmp_le C.1.1 C.1.2.1 hd ht (fun g => kt g p l e s m args below meth c Q D b A n0 ad0 C ad ws tys H locs ls L S) (fun g => kf g p l e s m args below meth c Q D b A n0 ad0 C ad ws tys H locs ls L S)
theorem Ev.goto {off : Int} {tgt : Nat} (hd : decode (mb q) pc = .ok (.goto off, 3)) (ht : (pc : Int) + off = (tgt : Int)) (k : Ev q X Φ tgt ρ st h cu su) : Ev q X Φ pc ρ st h cu su := fun p l e s m args below meth c Q D b A n0 ad0 C ad ws tys H locs ls L S => lv_goto C.1.1 C.1.2.1 hd ht (k p l e s m args below meth c Q D b A n0 ad0 C ad ws tys H locs ls L S)
theorem Ev.tableOut {dflt lo hi : Int} {offs : Array Int} {len : Nat} {x : Int32} {tgt : Nat} (hd : decode (mb q) pc = .ok (.tableswitch dflt lo hi offs, len)) (hx : x.toInt < lo ∨ hi < x.toInt) (ht : (pc : Int) + dflt = (tgt : Int)) (k : Ev q X Φ tgt ρ st h cu su) : Ev q X Φ pc ρ (vi x :: st) h cu su := fun p l e s m args below meth c Q D b A n0 ad0 C ad ws tys H locs ls L S => lv_tableOut C.1.1 C.1.2.1 hd hx ht (k p l e s m args below meth c Q D b A n0 ad0 C ad ws tys H locs ls L S)
theorem Ev.tableIn {dflt lo hi : Int} {offs : Array Int} {len : Nat} {x : Int32} {off : Int} {tgt : Nat} (hd : decode (mb q) pc = .ok (.tableswitch dflt lo hi offs, len)) (h1 : ¬ x.toInt < lo) (h2 : ¬ hi < x.toInt) (ho : offs[(x.toInt - lo).toNat]? = some off) (ht : (pc : Int) + off = (tgt : Int)) (k : Ev q X Φ tgt ρ st h cu su) : Ev q X Φ pc ρ (vi x :: st) h cu su := fun p l e s m args below meth c Q D b A n0 ad0 C ad ws tys H locs ls L S => lv_tableIn C.1.1 C.1.2.1 hd h1 h2 ho ht (k p l e s m args below meth c Q D b A n0 ad0 C ad ws tys H locs ls L S)
theorem Ev.lookup {dflt : Int} {ps : Array (Int × Int)} {len : Nat} {x : Int32} {off : Int} {tgt : Nat} (hd : decode (mb q) pc = .ok (.lookupswitch dflt ps, len)) (hp : (ps.toList.zip (ps.toList.drop 1)).all (fun (a, next) => a.1 < next.1) = true) (ho : Op.lookupswitch.offset ps.toList dflt x.toInt = off) (ht : (pc : Int) + off = (tgt : Int)) (k : Ev q X Φ tgt ρ st h cu su) : Ev q X Φ pc ρ (vi x :: st) h cu su := fun p l e s m args below meth c Q D b A n0 ad0 C ad ws tys H locs ls L S => lv_lookup C.1.1 C.1.2.1 hd hp ho ht (k p l e s m args below meth c Q D b A n0 ad0 C ad ws tys H locs ls L S)
theorem Ev.topi {x : Int32} (k : ∀ y : Int32, y = x → Ev q X Φ pc ρ (vi y :: st) h cu su) : Ev q X Φ pc ρ (vi x :: st) h cu su := k x rfl
def lmask : List Bool → List (Option AV) → List (Option AV)
  | b :: bs, o :: r => (if b then o else none) :: lmask bs r
  | _, _ => []
theorem mask_get : ∀ (bs : List Bool) (r : List (Option AV)) (i : Nat) (v : AV), (lmask bs r)[i]? = some (some v) → r[i]? = some (some v)
  | [], r, i, v, hi => by simp [lmask] at hi
  | b :: bs, [], i, v, hi => by simp [lmask] at hi
  | b :: bs, o :: r, i, v, hi => by
    cases i with
    | zero =>
      cases b
      · simp [lmask] at hi
      · simpa [lmask] using hi
    | succ i =>
      have := mask_get bs r i v (by simpa [lmask] using hi)
      simpa using this
/-- fewer locals are known -/
theorem Ev.mask (bs : List Bool) {ρ' : List (Option AV)} (hρ : lmask bs ρ = ρ') (k : Ev q X Φ pc ρ' st h cu su) : Ev q X Φ pc ρ st h cu su := fun p l e s m args below meth c Q D b A n0 ad0 C ad ws tys H locs ls L S => k p l e s m args below meth c Q D b A n0 ad0 C ad ws tys H locs ls ⟨L.1, L.2.1, fun i v hi => L.2.2 i v (mask_get bs ρ i v (by rw [hρ]; exact hi))⟩ S
theorem Ev.widen {cu' su' : Nat} (h1 : cu ≤ cu') (h2 : su ≤ su') (k : Ev q X Φ pc ρ st h cu' su') : Ev q X Φ pc ρ st h cu su := fun p l e s m args below meth c Q D b A n0 ad0 C ad ws tys H locs ls L S => W.widen h1 h2 (k p l e s m args below meth c Q D b A n0 ad0 C ad ws tys H locs ls L S)
theorem Ev.post {Ψ : Option AV → List AC → Prop} (hΨ : ∀ r h', Ψ r h' → Φ r h') (k : Ev q X Ψ pc ρ st h cu su) : Ev q X Φ pc ρ st h cu su := fun p l e s m args below meth c Q D b A n0 ad0 C => k p l e s m args below meth c Q D b A n0 ad0 ⟨C.1, C.2.1, C.2.2.1, C.2.2.2.1, fun r h' ad' ws' tys' H' locs' pc' ls' cu su i hr => C.2.2.2.2 r h' ad' ws' tys' H' locs' pc' ls' cu su i (hΨ r h' hr)⟩
/-- the method's end -/
theorem Ev.ireturn {x : Int32} (hd : decode (mb q) pc = .ok (.ireturn, 1)) (hn : ∃ ty, mr q = some ty ∧ narrow ty (.int x) = .int x) (hc : cu ≤ (mR q).cells) (hs : su ≤ (mR q).slots) (k : Φ (some (vi x)) h) : Ev q X Φ pc ρ [vi x] h cu su := fun p l e s m args below meth c Q D b A n0 ad0 C ad ws tys H locs ls L S => C.2.2.2.2 (some (vi x)) h ad ws tys H locs pc ls cu su .ireturn k S hc hs hd rfl hn
theorem Ev.vreturn (hd : decode (mb q) pc = .ok (.return_, 1)) (hn : mr q = none) (hc : cu ≤ (mR q).cells) (hs : su ≤ (mR q).slots) (k : Φ none h) : Ev q X Φ pc ρ [] h cu su := fun p l e s m args below meth c Q D b A n0 ad0 C ad ws tys H locs ls L S => C.2.2.2.2 none h ad ws tys H locs pc ls cu su .return_ k S hc hs hd rfl hn
theorem Ev.areturn {i : Nat} (hd : decode (mb q) pc = .ok (.areturn, 1)) (hn : ∃ rt, mr q = some rt ∧ ((∃ n, rt = .object n) ∨ ∃ t, rt = .array t)) (hc : cu ≤ (mR q).cells) (hs : su ≤ (mR q).slots) (k : Φ (some (vr i)) h) : Ev q X Φ pc ρ [vr i] h cu su := fun p l e s m args below meth c Q D b A n0 ad0 C ad ws tys H locs ls L S => C.2.2.2.2 (some (vr i)) h ad ws tys H locs pc ls cu su .areturn k S hc hs hd rfl hn
end EvRows
end
section
theorem hc1_ws {b : Nat} {ad : Nat → Nat} {ws ws' : va_W} {tys : List (ClassId × FieldType)} {i : Nat} {c : AC} (e : ws'[i]? = ws[i]?) (hh : hc1 b ad ws tys i c) : hc1 b ad ws' tys i c := by
  rcases c with ⟨ty, n, f⟩ | ⟨ci, fs⟩
  · obtain ⟨cA, t0, h1, h2⟩ := hh
    exact ⟨cA, t0, e.trans h1, h2⟩
  · exact e.trans hh
theorem hm_set {b : Nat} {ad : Nat → Nat} {h : List AC} {ws : va_W} {tys : List (ClassId × FieldType)} {i : Nat} {c0 c : AC} {e : va_E} (hM : hm b ad h ws tys) (hi : h[i]? = some c0)
    (hc : ∀ ws' : va_W, ws'[i]? = some (ad i, e) → hc1 b ad ws' tys i c) : hm b ad (h.set i c) (ws.set i (ad i, e)) tys := by
  have hl : i < h.length := (List.getElem?_eq_some_iff.mp hi).1
  refine ⟨by simpa using hM.1, fun j cj hj => ?_⟩
  by_cases hij : j = i
  · subst hij
    rw [List.getElem?_set_self hl] at hj
    cases hj
    exact hc _ (List.getElem?_set_self (by rw [hM.1]; exact hl))
  · rw [List.getElem?_set_ne (Ne.symm hij)] at hj
    exact hc1_ws (List.getElem?_set_ne (Ne.symm hij)) (hM.2 j cj hj)
theorem hm_push {b : Nat} {ad ad' : Nat → Nat} {h : List AC} {ws : va_W} {tys tx : List (ClassId × FieldType)} {c : AC} {e : va_E} (hM : hm b ad h ws tys) (hag : agr h.length (h.length + 1) ad ad') (hok : h.all (okc h.length (h.length + 1)) = true)
    (hnew : hc1 b ad' (ws ++ [(ad' h.length, e)]) (tys ++ tx) h.length c) : hm b ad' (h ++ [c]) (ws ++ [(ad' h.length, e)]) (tys ++ tx) := by
  refine ⟨by simp [hM.1], fun j cj hj => ?_⟩
  by_cases hl : j < h.length
  · rw [List.getElem?_append_left hl] at hj
    have e1 : (ws ++ [(ad' h.length, e)])[j]? = ws[j]? := List.getElem?_append_left (by rw [hM.1]; exact hl)
    have e2 : ad' j = ad j := hag j (Or.inl hl)
    have h0 := hM.2 j cj hj
    have hk := List.all_eq_true.mp hok cj (List.mem_of_getElem? hj)
    rcases cj with ⟨ty, n, f⟩ | ⟨ci, fs⟩
    · obtain ⟨cA, t0, h1, h2⟩ := h0
      refine ⟨cA, t0, by rw [e1, e2]; exact h1, ?_⟩
      rw [List.getElem?_append_left (List.getElem?_eq_some_iff.mp h2).1]
      exact h2
    · show (ws ++ [(ad' h.length, e)])[j]? = some (ad' j, .inr (ci, fs.map (cv b ad')))
      rw [e1, e2, agr_map hag hk]
      exact h0
  · rw [List.getElem?_append_right (by omega)] at hj
    have hz : j - h.length < 1 := (List.getElem?_eq_some_iff.mp hj).1
    obtain rfl : j = h.length := by omega
    rw [Nat.sub_self] at hj
    cases hj
    exact hnew
def adx (ad : Nat → Nat) (n a : Nat) : Nat → Nat := fun i => if i = n then a else ad i
theorem adx_agr (ad : Nat → Nat) (n a : Nat) : agr n (n + 1) ad (adx ad n a) := fun i hi => if_neg (by omega)
theorem adx_at (ad : Nat → Nat) (n a : Nat) : adx ad n a n = a := if_pos rfl
theorem agr_push {n0 n : Nat} {ad0 ad ad' : Nat → Nat} (h : agr n0 n ad0 ad) (h1 : agr n (n + 1) ad ad') (hle : n0 ≤ n) : agr n0 (n + 1) ad0 ad' := fun i hi => by
  rw [h1 i (by omega)]
  exact h i (by omega)
theorem agr_trans {n0 n n' : Nat} {ad0 ad ad' : Nat → Nat} (h : agr n0 n ad0 ad) (h1 : agr n n' ad ad') (hle : n0 ≤ n) (hle' : n ≤ n') : agr n0 n' ad0 ad' := fun i hi => by
  rw [h1 i (by omega)]
  exact h i (by omega)
theorem cat_sum (b : Nat) (ad : Nat → Nat) (st : List AV) : ((st.map (cv b ad)).map fun v => v.category).sum = st.length := by
  induction st with
  | nil => rfl
  | cons v t ih =>
    simp only [List.map_cons, List.sum_cons, List.length_cons, ih, cv_cat]
    omega
/-- what a field of the type can hold -/
def okt : FieldType → AV → Prop
  | .int, .inl _ => True
  | .boolean, .inl x => x = 0 ∨ x = 1
  | .object _, .inr _ => True
  | .array _, .inr _ => True
  | _, _ => False
theorem okt_n {ty : FieldType} {v : AV} (hv : okt ty v) (b : Nat) (ad : Nat → Nat) : narrow ty (cv b ad v) = cv b ad v ∧ fits ty (cv b ad v) = true := by
  rcases v with x | (_ | _) | i <;> cases ty <;> simp only [okt] at hv <;> first | exact ⟨rfl, rfl⟩ | (rcases hv with rfl | rfl <;> exact ⟨rfl, rfl⟩)
def LF (own : String) (idx : Nat) (f : String × String × String × Bool) : Prop := Cond.fieldLink own idx f.1 f.2.1 f.2.2.1 ∈ Wt ∨ ∃ host, Cond.fieldLinkNest own idx f.1 f.2.1 f.2.2.1 host ∈ Wt
def FG (own : String) (idx ci k : Nat) : Prop := ∃ (C : String) (T : u_T) (N : Nat), vwCl[ci]? = some (C, T, N) ∧ (∀ w ∈ u_ws C T N, w ∈ Wt) ∧ k < N ∧ LF own idx (T k)
def FP (own : String) (idx ci k : Nat) (ty : FieldType) (fin : Bool) : Prop := ∃ (C : String) (T : u_T) (N : Nat) (ty0 : Nat → FieldType), vwCl[ci]? = some (C, T, N) ∧ (∀ w ∈ u_ws C T N, w ∈ Wt) ∧ (∀ k, k < N → parseFieldDescriptor (T k).2.2.1 = some (ty0 k)) ∧ (∀ a, a < N → ∀ b, b < N → a ≠ b → (T a).2.1 ≠ (T b).2.1) ∧ k < N ∧ Cond.fieldLink own idx (T k).1 (T k).2.1 (T k).2.2.1 ∈ Wt ∧ (T k).2.2.2 = fin ∧ (T k).1 = own ∧ parseFieldDescriptor (T k).2.2.1 = some ty
def FPo (own : String) (idx ci k : Nat) (ty : FieldType) : Prop := ∃ (C : String) (T : u_T) (N : Nat) (ty0 : Nat → FieldType), vwCl[ci]? = some (C, T, N) ∧ (∀ w ∈ u_ws C T N, w ∈ Wt) ∧ (∀ k, k < N → parseFieldDescriptor (T k).2.2.1 = some (ty0 k)) ∧ (∀ a, a < N → ∀ b, b < N → a ≠ b → (T a).2.1 ≠ (T b).2.1) ∧ k < N ∧ LF own idx (T k) ∧ (T k).2.2.2 = false ∧ parseFieldDescriptor (T k).2.2.1 = some ty
def NK (own : String) (idx ci N : Nat) (dfl : List AV) : Prop := ∃ (C : String) (T : u_T) (ty : Nat → FieldType), vwCl[ci]? = some (C, T, N) ∧ (∀ w ∈ u_ws C T N, w ∈ Wt) ∧ (∀ k, k < N → parseFieldDescriptor (T k).2.2.1 = some (ty k)) ∧ Cond.classLink own idx C ∈ Wt ∧ Cond.instantiable C N ∈ Wt ∧ Cond.initialized C ∈ Wt ∧ ∀ (b : Nat) (ad : Nat → Nat) (j : Nat), j < N → defaultValue (ty j) = vp_V (dfl.map (cv b ad)) j
section EvHeap
variable {q : MI} {X : Option (Nat × (Nat → Int32))} {Φ : Option AV → List AC → Prop} {pc : Nat} {ρ : List (Option AV)} {st : List AV} {h : List AC} {cu su : Nat}
theorem Ev.get {idx i ci k : Nat} {fs : List AV} {v : AV} (hd : decode (mb q) pc = .ok (.getfield idx, 3)) (hf : FG (my q).cls idx ci k) (ho : h[i]? = some (ao ci fs)) (hv : fs[k]? = some v) (kk : Ev q X Φ (pc + 3) ρ (v :: st) h cu su) : Ev q X Φ pc ρ (vr i :: st) h cu su := by
  intro p l e s m args below meth c Q D b A n0 ad0 C ad ws tys H locs ls L S
  obtain ⟨C0, T, N, hc, hin, hk, hl | ⟨host, hl⟩⟩ := hf
  · exact va_get C.1.1 C.1.2.1 C.1.2.2.2.2 hin C.1.2.2.2.1 S.2.2.1 S.2.1 i (S.1.2 i _ ho) hc k hk (C.1.2.2.2.2 _ hl) (fun _ h9 => h9) (by rw [List.getElem?_map, hv]; rfl) hd (kk p l e s m args below meth c Q D b A n0 ad0 C ad ws tys H locs ls L S)
  · exact va_getN C.1.1 C.1.2.1 C.1.2.2.2.2 hin C.1.2.2.2.1 S.2.2.1 S.2.1 i (S.1.2 i _ ho) hc k hk (C.1.2.2.2.2 _ hl) (fun _ h9 => h9) (by rw [List.getElem?_map, hv]; rfl) hd (kk p l e s m args below meth c Q D b A n0 ad0 C ad ws tys H locs ls L S)
theorem Ev.put {idx i ci k : Nat} {ty : FieldType} {fs : List AV} {v : AV} {h' : List AC} (hd : decode (mb q) pc = .ok (.putfield idx, 3)) (hf : FPo (my q).cls idx ci k ty) (hw : okt ty v) (ho : h[i]? = some (ao ci fs)) (hl : k < fs.length) (hh : h.set i (ao ci (fs.set k v)) = h') (kk : Ev q X Φ (pc + 3) ρ st h' cu su) : Ev q X Φ pc ρ (v :: vr i :: st) h cu su := by
  intro p l e s m args below meth c Q D b A n0 ad0 C ad ws tys H locs ls L S
  obtain ⟨C0, T, N, ty0, hc, hin, hty, hnm, hk, hlk, hfin, hd2⟩ := hf
  obtain ⟨hM, hP, hK, hD, hS, hag, hle⟩ := S
  subst hh
  have eS : (fs.set k v).map (cv b ad) = (fs.map (cv b ad)).set k (cv b ad v) := List.map_set
  have go : ∀ (H1 : Heap) (locs1 : List Loc), va_P D vwCl (ws.set i (ad i, .inr (ci, (fs.map (cv b ad)).set k (cv b ad v)))) H1 → va_D A (ws.set i (ad i, .inr (ci, (fs.map (cv b ad)).set k (cv b ad v)))) → va_S A s.heap H1 locs1 → W p l e (mR q) s m args below meth c H1 locs1 cu su Q (F0 m (pc + 3) ls (st.map (cv b ad))) := by
    intro H1 locs1 hP1 hD1 hS1
    refine kk p l e s m args below meth c Q D b A n0 ad0 C ad _ tys H1 locs1 ls L ⟨hm_set hM ho (fun ws' hw' => ?_), hP1, hK, hD1, hS1, by simpa using hag, by simpa using hle⟩
    show ws'[i]? = some (ad i, .inr (ci, (fs.set k v).map (cv b ad)))
    rw [eS]
    exact hw'
  rcases hlk with hlk | ⟨host, hlk⟩
  · exact va_put C.1.1 C.1.2.1 C.1.2.2.2.2 hin ty0 hty hnm C.1.2.2.2.1 hK hP hD hS i (hM.2 i _ ho) hc k hk (C.1.2.2.2.2 _ hlk) (fun _ h9 => h9) hfin hd2 (okt_n hw b ad).1 (okt_n hw b ad).2 (by simpa using hl) hd go
  · exact va_putN C.1.1 C.1.2.1 C.1.2.2.2.2 hin ty0 hty hnm C.1.2.2.2.1 hK hP hD hS i (hM.2 i _ ho) hc k hk (C.1.2.2.2.2 _ hlk) (fun _ h9 => h9) hfin hd2 (okt_n hw b ad).1 (okt_n hw b ad).2 (by simpa using hl) hd go
theorem Ev.putF {idx i ci k : Nat} {ty : FieldType} {fs : List AV} {v : AV} {h' : List AC} (hd : decode (mb q) pc = .ok (.putfield idx, 3)) (hf : FP (my q).cls idx ci k ty true) (hi : (my q).name = "<init>") (hw : okt ty v) (ho : h[i]? = some (ao ci fs)) (hl : k < fs.length) (hh : h.set i (ao ci (fs.set k v)) = h') (kk : Ev q X Φ (pc + 3) ρ st h' cu su) : Ev q X Φ pc ρ (v :: vr i :: st) h cu su := by
  intro p l e s m args below meth c Q D b A n0 ad0 C ad ws tys H locs ls L S
  obtain ⟨C0, T, N, ty0, hc, hin, hty, hnm, hk, hlk, hfin, hdecl, hd2⟩ := hf
  obtain ⟨hM, hP, hK, hD, hS, hag, hle⟩ := S
  subst hh
  have eS : (fs.set k v).map (cv b ad) = (fs.map (cv b ad)).set k (cv b ad v) := List.map_set
  refine va_putF C.1.1 C.1.2.1 C.1.2.2.2.2 hin ty0 hty hnm C.1.2.2.2.1 hK hP hD hS i (hM.2 i _ ho) hc k hk (C.1.2.2.2.2 _ hlk) (fun _ h9 => h9) hfin (C.2.1.1.trans hi) hdecl hd2 (okt_n hw b ad).1 (okt_n hw b ad).2 (by simpa using hl) hd (fun H1 locs1 hP1 hD1 hS1 => ?_)
  refine kk p l e s m args below meth c Q D b A n0 ad0 C ad _ tys H1 locs1 ls L ⟨hm_set hM ho (fun ws' hw' => ?_), hP1, hK, hD1, hS1, by simpa using hag, by simpa using hle⟩
  show ws'[i]? = some (ad i, .inr (ci, (fs.set k v).map (cv b ad)))
  rw [eS]
  exact hw'
theorem Ev.iald {i n : Nat} {f : Nat → Int32} {x : Int32} (hd : decode (mb q) pc = .ok (.iaload, 1)) (ha : h[i]? = some (ai .int n f)) (hin : vp_in x n) (kk : Ev q X Φ (pc + 1) ρ (vi (f x.toNatClampNeg) :: st) h cu su) : Ev q X Φ pc ρ (vi x :: vr i :: st) h cu su := by
  intro p l e s m args below meth c Q D b A n0 ad0 C ad ws tys H locs ls L S
  obtain ⟨cA, t0, h1, h2⟩ := S.1.2 i _ ha
  exact va_iald C.1.1 C.1.2.1 S.2.2.1 S.2.1 i t0 h1 h2 hin hd (kk p l e s m args below meth c Q D b A n0 ad0 C ad ws tys H locs ls L S)
theorem Ev.zald {i n : Nat} {f : Nat → Int32} {x : Int32} (hd : decode (mb q) pc = .ok (.baload, 1)) (ha : h[i]? = some (ai .boolean n f)) (hin : vp_in x n) (kk : Ev q X Φ (pc + 1) ρ (vi (f x.toNatClampNeg) :: st) h cu su) : Ev q X Φ pc ρ (vi x :: vr i :: st) h cu su := by
  intro p l e s m args below meth c Q D b A n0 ad0 C ad ws tys H locs ls L S
  obtain ⟨cA, t0, h1, h2⟩ := S.1.2 i _ ha
  exact va_zald C.1.1 C.1.2.1 S.2.2.1 S.2.1 i t0 h1 h2 hin hd (kk p l e s m args below meth c Q D b A n0 ad0 C ad ws tys H locs ls L S)
theorem Ev.iast {i n : Nat} {f : Nat → Int32} {x y : Int32} {h' : List AC} (hd : decode (mb q) pc = .ok (.iastore, 1)) (ha : h[i]? = some (ai .int n f)) (hin : vp_in x n) (hh : h.set i (ai .int n (upd f x.toNatClampNeg y)) = h') (kk : Ev q X Φ (pc + 1) ρ st h' cu su) : Ev q X Φ pc ρ (vi y :: vi x :: vr i :: st) h cu su := by
  intro p l e s m args below meth c Q D b A n0 ad0 C ad ws tys H locs ls L S
  obtain ⟨hM, hP, hK, hD, hS, hag, hle⟩ := S
  obtain ⟨cA, t0, h1, h2⟩ := hM.2 i _ ha
  subst hh
  refine va_iast C.1.1 C.1.2.1 hK hP hD hS i t0 h1 h2 hin hd (fun H1 locs1 hP1 hD1 hS1 => ?_)
  exact kk p l e s m args below meth c Q D b A n0 ad0 C ad _ tys H1 locs1 ls L ⟨hm_set hM ha (fun ws' hw' => ⟨cA, t0, hw', h2⟩), hP1, hK, hD1, hS1, by simpa using hag, by simpa using hle⟩
theorem Ev.zast {i n : Nat} {f : Nat → Int32} {x y : Int32} {h' : List AC} (hd : decode (mb q) pc = .ok (.bastore, 1)) (ha : h[i]? = some (ai .boolean n f)) (hin : vp_in x n) (hy : vp_nar .boolean y = y) (hh : h.set i (ai .boolean n (upd f x.toNatClampNeg y)) = h') (kk : Ev q X Φ (pc + 1) ρ st h' cu su) : Ev q X Φ pc ρ (vi y :: vi x :: vr i :: st) h cu su := by
  intro p l e s m args below meth c Q D b A n0 ad0 C ad ws tys H locs ls L S
  obtain ⟨hM, hP, hK, hD, hS, hag, hle⟩ := S
  obtain ⟨cA, t0, h1, h2⟩ := hM.2 i _ ha
  subst hh
  refine va_zast C.1.1 C.1.2.1 hK hP hD hS i t0 h1 h2 hin hd (fun H1 locs1 hP1 hD1 hS1 => ?_)
  rw [hy] at hP1 hD1
  exact kk p l e s m args below meth c Q D b A n0 ad0 C ad _ tys H1 locs1 ls L ⟨hm_set hM ha (fun ws' hw' => ⟨cA, t0, hw', h2⟩), hP1, hK, hD1, hS1, by simpa using hag, by simpa using hle⟩
theorem Ev.alen {i n : Nat} {ty : FieldType} {f : Nat → Int32} {v : Int32} (hd : decode (mb q) pc = .ok (.arraylength, 1)) (ha : h[i]? = some (ai ty n f)) (hv : Int32.ofNat n = v) (kk : Ev q X Φ (pc + 1) ρ (vi v :: st) h cu su) : Ev q X Φ pc ρ (vr i :: st) h cu su := by
  intro p l e s m args below meth c Q D b A n0 ad0 C ad ws tys H locs ls L S
  obtain ⟨cA, t0, h1, h2⟩ := S.1.2 i _ ha
  exact va_alen C.1.1 C.1.2.1 S.2.2.1 S.2.1 i t0 h1 h2 hv hd (kk p l e s m args below meth c Q D b A n0 ad0 C ad ws tys H locs ls L S)
theorem Ev.sld {L0 : Nat} {xs : Nat → Int32} {x : Int32} (hX : X = some (L0, xs)) (hd : decode (mb q) pc = .ok (.iaload, 1)) (hin : vp_in x L0) (kk : Ev q X Φ (pc + 1) ρ (vi (xs x.toNatClampNeg) :: st) h cu su) : Ev q X Φ pc ρ (vi x :: vs :: st) h cu su := by
  intro p l e s m args below meth c Q D b A n0 ad0 C ad ws tys H locs ls L S
  obtain ⟨h1, h2, h3⟩ := C.2.2.2.1 L0 xs hX
  exact va_sld C.1.1 C.1.2.1 h1 h2 h3 S.2.2.2.2.1 hin hd (kk p l e s m args below meth c Q D b A n0 ad0 C ad ws tys H locs ls L S)
theorem Ev.slen {L0 : Nat} {xs : Nat → Int32} (hX : X = some (L0, xs)) (hd : decode (mb q) pc = .ok (.arraylength, 1)) (kk : Ev q X Φ (pc + 1) ρ (vi (Int32.ofNat L0) :: st) h cu su) : Ev q X Φ pc ρ (vs :: st) h cu su := by
  intro p l e s m args below meth c Q D b A n0 ad0 C ad ws tys H locs ls L S
  obtain ⟨h1, h2, h3⟩ := C.2.2.2.1 L0 xs hX
  exact va_slen C.1.1 C.1.2.1 h1 h2 h3 S.2.2.2.2.1 hd (kk p l e s m args below meth c Q D b A n0 ad0 C ad ws tys H locs ls L S)
theorem Ev.newa {at0 : ArrayType} {ty : FieldType} {x : Int32} {N n : Nat} {h' : List AC} (hd : decode (mb q) pc = .ok (.newarray at0, 2)) (hty : newarray.typeOf at0 = ty) (hdf : defaultValue ty = .int 0) (hw : Cond.arrayClass ty ∈ Wt) (hx : ¬ x < 0) (hN : x.toNatClampNeg = N) (hb : N * componentBytes ty ≤ 536870912) (hc : cu + 1 ≤ (mR q).cells) (hs : su + N ≤ (mR q).slots)
    (hn : h.length = n) (hok : okS n (n + 1) ρ st h = true) (hh : h ++ [ai ty N (fun _ => 0)] = h') (kk : Ev q X Φ (pc + 2) ρ (vr n :: st) h' (cu + 1) (su + N)) : Ev q X Φ pc ρ (vi x :: st) h cu su := by
  intro p l e s m args below meth c Q D b A n0 ad0 C ad ws tys H locs ls L S
  obtain ⟨hM, hP, hK, hD, hS, hag, hle⟩ := S
  subst hty; subst hh; subst hn
  simp only [okS, Bool.and_eq_true] at hok
  refine va_newa (a0 := (N, .inl (fun _ => 0))) C.1.1 C.1.2.1 (C.1.2.2.2.2 _ hw) rfl hK hP hD hS C.2.2.1 (fun cA => by rw [hdf]; rfl) hx hN hb hc hs hd (fun a cA H1 hK1 hP1 hD1 hS1 => ?_)
  have hag1 := adx_agr ad h.length a
  have ea := adx_at ad h.length a
  have est : (vr h.length :: st).map (cv b (adx ad h.length a)) = .ref a :: st.map (cv b ad) := by
    rw [List.map_cons, agr_map hag1 hok.1.2]
    show Value.ref (adx ad h.length a h.length) :: _ = _
    rw [ea]
  rw [← ea] at hP1 hD1
  rw [← est]
  refine kk p l e s m args below meth c Q D b A n0 ad0 C (adx ad h.length a) _ _ H1 locs ls (agr_lm hag1 hok.1.1 L) ⟨hm_push hM hag1 hok.2 ⟨cA, tys.length, ?_, ?_⟩, hP1, hK1, hD1, hS1, ?_, ?_⟩
  · rw [← hM.1, List.getElem?_append_right (Nat.le_refl _), Nat.sub_self]; rfl
  · rw [List.getElem?_append_right (Nat.le_refl _), Nat.sub_self]; rfl
  · rw [List.length_append]; exact agr_push hag hag1 hle
  · rw [List.length_append]; omega
theorem Ev.new {idx ci N n : Nat} {dfl : List AV} {h' : List AC} (hd : decode (mb q) pc = .ok (.new idx, 3)) (hk : NK (my q).cls idx ci N dfl) (hc : cu + 1 ≤ (mR q).cells) (hs : su + N ≤ (mR q).slots) (hn : h.length = n) (hok : okS n (n + 1) ρ st h = true) (hdok : dfl.all (okv n (n + 1)) = true)
    (hh : h ++ [ao ci dfl] = h') (kk : Ev q X Φ (pc + 3) ρ (vr n :: st) h' (cu + 1) (su + N)) : Ev q X Φ pc ρ st h cu su := by
  intro p l e s m args below meth c Q D b A n0 ad0 C ad ws tys H locs ls L S
  obtain ⟨hM, hP, hK, hD, hS, hag, hle⟩ := S
  obtain ⟨C0, T, ty, hcl, hin, hty, hlk, hins, hini, hdf⟩ := hk
  subst hh; subst hn
  simp only [okS, Bool.and_eq_true] at hok
  refine va_new (fs := dfl.map (cv b ad)) C.1.1 C.1.2.1 C.1.2.2.2.2 hin ty hty C.1.2.2.2.1 (C.1.2.2.2.2 _ hlk) (C.1.2.2.2.2 _ hins) (C.1.2.2.2.2 _ hini) hK hP hD hS C.2.2.1 hcl (hdf b ad) hc hs hd (fun a H1 hP1 hD1 hS1 => ?_)
  have hag1 := adx_agr ad h.length a
  have ea := adx_at ad h.length a
  have est : (vr h.length :: st).map (cv b (adx ad h.length a)) = .ref a :: st.map (cv b ad) := by
    rw [List.map_cons, agr_map hag1 hok.1.2]
    show Value.ref (adx ad h.length a h.length) :: _ = _
    rw [ea]
  rw [← ea] at hP1 hD1
  rw [← est]
  have hM1 := hm_push (tx := []) (c := ao ci dfl) (e := .inr (ci, dfl.map (cv b ad))) hM hag1 hok.2 (by
    show (ws ++ [(adx ad h.length a h.length, .inr (ci, dfl.map (cv b ad)))])[h.length]? = some (adx ad h.length a h.length, .inr (ci, dfl.map (cv b (adx ad h.length a))))
    rw [agr_map hag1 hdok, ← hM.1, List.getElem?_append_right (Nat.le_refl _), Nat.sub_self]; rfl)
  rw [List.append_nil] at hM1
  refine kk p l e s m args below meth c Q D b A n0 ad0 C (adx ad h.length a) _ _ H1 locs ls (agr_lm hag1 hok.1.1 L) ⟨hM1, hP1, hK, hD1, hS1, ?_, ?_⟩
  · rw [List.length_append]; exact agr_push hag hag1 hle
  · rw [List.length_append]; omega
theorem Ev.objInit {idx i : Nat} (hd : decode (mb q) pc = .ok (.invokespecial idx, 3)) (hl : Cond.methodLink (my q).cls idx objectInit ∈ Wt) (hi : Cond.instanceMethod objectInit ∈ Wt) (hco : Cond.code objectInit ⟨#[0xb1]⟩ 1 none ∈ Wt) (hfr : 1 ≤ (mR q).frames) (hlo : st.length + 12 ≤ (mR q).locals) (k : Ev q X Φ (pc + 3) ρ st h cu su) : Ev q X Φ pc ρ (vr i :: st) h cu su := by
  intro p l e s m args below meth c Q D b A n0 ad0 C ad ws tys H locs ls L S
  refine W.objInit C.1.1 C.1.2.1 C.1.2.2.2.1 (C.1.2.2.2.2 _ hl) (C.1.2.2.2.2 _ hi) (C.1.2.2.2.2 _ hco) rfl (by rw [C.1.2.2.1]; exact L.1) (a := ad i) (rest := st.map (cv b ad)) rfl hd hfr ?_ (k p l e s m args below meth c Q D b A n0 ad0 C ad ws tys H locs ls L S)
  rw [cat_sum]
  show 2 * 0 + st.length + 12 ≤ _
  omega
end EvHeap
end
section
theorem evm_blind {av : List Value} {sz : Nat} {D : va_G} {ws : va_W} {tys : List (ClassId × FieldType)} : FrameBlind (va_Pc av (fun U => U.heap.size = sz ∧ va_P D vwCl ws U.heap ∧ va_K D vwCl tys U ∧ va_D (fun _ => True) ws ∧ NN U)) :=
  fun a U g mk ⟨q0, q1, qP, qK, qD, qN⟩ => ⟨q0, q1, qP, va_K.moved (u := U) (U := U.calling g mk a) (Vm.Alike.refl U.vm) qK, qD, NN.same (s := U) (U := U.calling g mk a) rfl qN⟩
def LM (own : String) (idx : Nat) (y : MethodName) : Prop := Cond.methodLink own idx y ∈ Wt ∨ ∃ host, Cond.methodLinkNest own idx y host ∈ Wn
def MK (j : MI) (n : Nat) : Prop := Cond.code (my j) (mb j) (ml j) (mr j) ∈ Wt ∧ Cond.initialized (my j).cls ∈ Wt ∧ (my j).cls ≠ "java/lang/invoke/MethodHandle" ∧ (my j).cls ≠ "java/lang/invoke/VarHandle" ∧ (parseMethodDescriptor (my j).desc).map (fun d => d.parameters.length) = some n
def MV (j : MI) : Prop := Cond.instanceMethod (my j) ∈ Wt ∧ Cond.selects (my j).cls (my j) (my j) ∈ Wt
def Rle (j q : MI) : Prop := (mR j).frames + 1 ≤ (mR q).frames ∧ 8 + (ml j + 11) + (mR j).locals ≤ (mR q).locals
section EvCall
variable {q : MI} {X : Option (Nat × (Nat → Int32))} {Φ : Option AV → List AC → Prop} {pc : Nat} {ρ : List (Option AV)} {st : List AV} {h : List AC} {cu su : Nat}
/-- behind a call -/
theorem ev_back {j : MI} {Φ' : Option AV → List AC → Prop} {p : Program} {l : Launch} {e : Env} {s : State} {m : MethodId} {args : Array Value} {below : List Frame} {meth : Method} {c : Code} {Q : State → Prop} {D : va_G} {b : Nat} {A : Nat → Prop} {n0 : Nat} {ad0 : Nat → Nat}
    (C : Cx q X Φ p l e s m args below meth c Q D b A n0 ad0) {ad : Nat → Nat} {ws : va_W} {tys : List (ClassId × FieldType)} {H : Heap} {locs : List Loc} {ls : Array Slot} (L : lm b ad (ml q) ρ ls) (S : St q D b A s n0 ad0 ad h ws tys H locs) {st0 : List Value} {a : Array Value}
    (hr : va_Run p l e (mR q) s m args below meth c H locs cu su (mR j).cells (mR j).slots (F0 m pc ls st0) (st.map (cv b ad)) (QM D b ad h.length Φ' (va_A ws H.size) a) (va_A ws H.size))
    (hok : ∀ r h', Φ' r h' → h'.length = h.length ∨ (ρ.all (oko h.length h'.length) && st.all (okv h.length h'.length)) = true)
    (kk : ∀ r h', Φ' r h' → Ev q X Φ (pc + 3) ρ (r.toList ++ st) h' (cu + (mR j).cells) (su + (mR j).slots)) :
    W p l e (mR q) s m args below meth c H locs cu su Q (F0 m pc ls st0) := by
  obtain ⟨hM, hP, hK, hD, hS, hag, hle⟩ := S
  intro T hT Xs
  obtain ⟨v, st₀, t, T', L', h0, X', hL, e1, e2, ⟨⟨r, h', ad', ws', tys', hv, hΦ, hag1, hle1, hM', hP', hK', hD'⟩, hz, hkeep⟩, stp⟩ := hr T hT Xs
  have hv : v = r.map (cv b ad') := by injection hv
  subst hv
  rw [h0] at hz hkeep
  have hA : ∀ x : Nat, va_A ws H.size x → A x := fun x hx => by
    rcases hx with ⟨k, e, hx⟩ | hx
    · exact hD.2 k _ hx
    · exact C.2.2.1 x (Nat.le_trans hS.1 hx)
  have hS1 : va_S A s.heap T'.heap (locs ++ L') := by
    refine ⟨Nat.le_trans hS.1 (by rw [e1]; exact hz), fun x h1 h2 => ?_, fun x hx => ?_⟩
    · rw [e1, hkeep x (Nat.lt_of_lt_of_le h1 hS.1) (fun z => h2 (hA x z))]
      exact hS.2.1 x h1 h2
    · rcases List.mem_append.mp hx with hx | hx
      · exact hS.2.2 x hx
      · exact hA _ (hL x hx)
  have hLst : lm b ad' (ml q) ρ ls ∧ st.map (cv b ad') = st.map (cv b ad) := by
    rcases hok r h' hΦ with g | g
    · rw [g] at hag1
      rw [agr_eq hag1]
      exact ⟨L, rfl⟩
    · rw [Bool.and_eq_true] at g
      exact ⟨agr_lm hag1 g.1 L, agr_map hag1 g.2⟩
  have est : (r.map (cv b ad')).toList ++ st.map (cv b ad) = (r.toList ++ st).map (cv b ad') := by
    rw [List.map_append, hLst.2]
    cases r <;> rfl
  have hal : t.vm.Alike s.vm := by
    rw [← e2]
    exact X'.warmed.alike.symm
  obtain ⟨t2, a1, b1⟩ := kk r h' hΦ p l e s m args below meth c Q D b A n0 ad0 C ad' ws' tys' T'.heap (locs ++ L') ls hLst.1 ⟨hM', by rw [e1]; exact hP', va_K.moved hal hK', hD'.weaken (fun _ _ _ hx => hA _ hx), hS1, agr_trans hag hag1 hle hle1, Nat.le_trans hle hle1⟩ T' rfl X'
  refine ⟨t2, stp t2 ?_, b1⟩
  rw [est]
  exact a1
theorem Ev.callV {j : MI} {Φ' : Option AV → List AC → Prop} {idx i ci n : Nat} {T0 : u_T} {N0 : Nat} {As stk fs : List AV} (hj : EvM j (vr i :: As) h Φ') (hd : decode (mb q) pc = .ok (.invokevirtual idx, 3)) (hl : LM (my q).cls idx (my j)) (hm : MK j n) (hv : MV j) (hR : Rle j q) (ho : h[i]? = some (ao ci fs)) (hcl : vwCl[ci]? = some ((my j).cls, T0, N0))
    (hs : stk = As.reverse ++ vr i :: st) (hn : As.length = n) (hst : st.length ≤ 8) (hc : cu + (mR j).cells ≤ (mR q).cells ∧ su + (mR j).slots ≤ (mR q).slots)
    (hok : ∀ r h', Φ' r h' → h'.length = h.length ∨ (ρ.all (oko h.length h'.length) && st.all (okv h.length h'.length)) = true)
    (kk : ∀ r h', Φ' r h' → Ev q X Φ (pc + 3) ρ (r.toList ++ st) h' (cu + (mR j).cells) (su + (mR j).slots)) : Ev q X Φ pc ρ stk h cu su := by
  intro p l e s m args below meth c Q D b A n0 ad0 C ad ws tys H locs ls L S
  subst hs
  obtain ⟨hM, hP, hK, hD, hS, hag, hle⟩ := id S
  obtain ⟨hcode, hini, hx1, hx2, hpar⟩ := hm
  have hrec := va_recv hK hP hcl (hM.2 i _ ho)
  have hpre : PreV s H (my j).cls (ad i) (va_Pc ((vr i :: As).map (cv b ad)) (fun U => U.heap.size = H.size ∧ va_P D vwCl ws U.heap ∧ va_K D vwCl tys U ∧ va_D (fun _ => True) ws ∧ NN U)) (As.map (cv b ad)) :=
    ⟨evm_blind, hrec, fun U hU hW => ⟨rfl, by rw [hU], by rw [hU]; exact hP, va_K.moved hW.alike hK, hD.weaken (fun _ _ _ _ => trivial), NN.warm hW C.2.1.2⟩⟩
  have hstack : (F0 m pc ls ((As.reverse ++ vr i :: st).map (cv b ad))).stack = (As.map (cv b ad)).reverse ++ .ref (ad i) :: st.map (cv b ad) := by
    show (As.reverse ++ vr i :: st).map (cv b ad) = _
    rw [List.map_append, List.map_reverse]
    rfl
  have hroom : 2 * (F0 m pc ls ((As.reverse ++ vr i :: st).map (cv b ad))).monitorRoom + ((st.map (cv b ad)).map fun v => v.category).sum ≤ 8 := by
    rw [cat_sum]
    show 2 * 0 + _ ≤ 8
    omega
  have hlen : (As.map (cv b ad)).length = n := by rw [List.length_map]; exact hn
  refine ev_back (j := j) (a := (Value.ref (ad i) :: As.map (cv b ad)).toArray) C L S ?_ hok kk
  rcases hl with hl | ⟨host, hl⟩
  · exact va_runV ⟨C.1.1, C.1.2.1, C.1.2.2.1, C.1.2.2.2.1, C.1.2.2.2.2⟩ (hj l D b ad ws tys H.size hM)
      ⟨callB_of n C.1.2.2.2.2 (Ww_good hcode) rfl rfl rfl (C.1.2.2.2.2 _ hini) (C.1.2.2.2.2 _ hl) ⟨hx1, hx2, hpar⟩ hR, C.1.2.2.2.2 _ hv.1, C.1.2.2.2.2 _ hv.2⟩ hpre rfl hlen L.1 hstack hroom hd hc
  · exact va_runVN ⟨C.1.1, C.1.2.1, C.1.2.2.1, C.1.2.2.2.1, C.1.2.2.2.2⟩ (hj l D b ad ws tys H.size hM)
      ⟨va_cnB n C.1.2.2.2.2 (Ww_good hcode) rfl rfl rfl (C.2.1.2 _ hl) (C.1.2.2.2.2 _ hini) ⟨hx1, hx2, hpar⟩ hR, C.1.2.2.2.2 _ hv.1, C.1.2.2.2.2 _ hv.2⟩ hpre rfl hlen L.1 hstack hroom hd hc
theorem Ev.callS {j : MI} {Φ' : Option AV → List AC → Prop} {idx n : Nat} {As stk : List AV} (hj : EvM j As h Φ') (hd : decode (mb q) pc = .ok (.invokestatic idx, 3)) (hl : LM (my q).cls idx (my j)) (hm : MK j n) (hv : Cond.static (my j) ∈ Wt) (hR : Rle j q)
    (hs : stk = As.reverse ++ st) (hn : As.length = n) (hst : st.length ≤ 8) (hc : cu + (mR j).cells ≤ (mR q).cells ∧ su + (mR j).slots ≤ (mR q).slots)
    (hok : ∀ r h', Φ' r h' → h'.length = h.length ∨ (ρ.all (oko h.length h'.length) && st.all (okv h.length h'.length)) = true)
    (kk : ∀ r h', Φ' r h' → Ev q X Φ (pc + 3) ρ (r.toList ++ st) h' (cu + (mR j).cells) (su + (mR j).slots)) : Ev q X Φ pc ρ stk h cu su := by
  intro p l e s m args below meth c Q D b A n0 ad0 C ad ws tys H locs ls L S
  subst hs
  obtain ⟨hM, hP, hK, hD, hS, hag, hle⟩ := id S
  obtain ⟨hcode, hini, hx1, hx2, hpar⟩ := hm
  have hpre : PreS s H (va_Pc (As.map (cv b ad)) (fun U => U.heap.size = H.size ∧ va_P D vwCl ws U.heap ∧ va_K D vwCl tys U ∧ va_D (fun _ => True) ws ∧ NN U)) (As.map (cv b ad)) :=
    ⟨evm_blind, fun U hU hW => ⟨rfl, by rw [hU], by rw [hU]; exact hP, va_K.moved hW.alike hK, hD.weaken (fun _ _ _ _ => trivial), NN.warm hW C.2.1.2⟩⟩
  have hstack : (F0 m pc ls ((As.reverse ++ st).map (cv b ad))).stack = (As.map (cv b ad)).reverse ++ st.map (cv b ad) := by
    show (As.reverse ++ st).map (cv b ad) = _
    rw [List.map_append, List.map_reverse]
  have hroom : 2 * (F0 m pc ls ((As.reverse ++ st).map (cv b ad))).monitorRoom + ((st.map (cv b ad)).map fun v => v.category).sum ≤ 8 := by
    rw [cat_sum]
    show 2 * 0 + _ ≤ 8
    omega
  have hlen : (As.map (cv b ad)).length = n := by rw [List.length_map]; exact hn
  refine ev_back (j := j) (a := (As.map (cv b ad)).toArray) C L S ?_ hok kk
  rcases hl with hl | ⟨host, hl⟩
  · exact va_runS ⟨C.1.1, C.1.2.1, C.1.2.2.1, C.1.2.2.2.1, C.1.2.2.2.2⟩ (hj l D b ad ws tys H.size hM)
      ⟨callB_of n C.1.2.2.2.2 (Ww_good hcode) rfl rfl rfl (C.1.2.2.2.2 _ hini) (C.1.2.2.2.2 _ hl) ⟨hx1, hx2, hpar⟩ hR, C.1.2.2.2.2 _ hv⟩ hpre rfl hlen L.1 hstack hroom hd hc
  · exact va_runSN ⟨C.1.1, C.1.2.1, C.1.2.2.1, C.1.2.2.2.1, C.1.2.2.2.2⟩ (hj l D b ad ws tys H.size hM)
      ⟨va_cnB n C.1.2.2.2.2 (Ww_good hcode) rfl rfl rfl (C.2.1.2 _ hl) (C.1.2.2.2.2 _ hini) ⟨hx1, hx2, hpar⟩ hR, C.1.2.2.2.2 _ hv, trivial⟩ hpre rfl hlen L.1 hstack hroom hd hc
theorem Ev.callI {j : MI} {Φ' : Option AV → List AC → Prop} {idx i n : Nat} {As stk : List AV} (hj : EvM j (vr i :: As) h Φ') (hd : decode (mb q) pc = .ok (.invokespecial idx, 3)) (hl : LM (my q).cls idx (my j)) (hm : MK j n) (hy : (my j).name = "<init>") (hrt : mr j = none) (hv : Cond.instanceMethod (my j) ∈ Wt) (hR : Rle j q)
    (hs : stk = As.reverse ++ vr i :: st) (hn : As.length = n) (hst : st.length ≤ 8) (hc : cu + (mR j).cells ≤ (mR q).cells ∧ su + (mR j).slots ≤ (mR q).slots)
    (hok : ∀ r h', Φ' r h' → h'.length = h.length ∨ (ρ.all (oko h.length h'.length) && st.all (okv h.length h'.length)) = true)
    (kk : ∀ r h', Φ' r h' → Ev q X Φ (pc + 3) ρ (r.toList ++ st) h' (cu + (mR j).cells) (su + (mR j).slots)) : Ev q X Φ pc ρ stk h cu su := by
  intro p l e s m args below meth c Q D b A n0 ad0 C ad ws tys H locs ls L S
  subst hs
  obtain ⟨hM, hP, hK, hD, hS, hag, hle⟩ := id S
  obtain ⟨hcode, hini, hx1, hx2, hpar⟩ := hm
  rw [hrt] at hcode
  have hww : Ww j = Cond.code (my j) (mb j) (ml j) none :: Wt := by rw [Ww, hrt]
  have hgood : GoodIn Wt (Ww j) := by
    refine Ww_good ?_
    rw [hrt]
    exact hcode
  have hpre : PreS s H (va_Pc ((vr i :: As).map (cv b ad)) (fun U => U.heap.size = H.size ∧ va_P D vwCl ws U.heap ∧ va_K D vwCl tys U ∧ va_D (fun _ => True) ws ∧ NN U)) (.ref (ad i) :: As.map (cv b ad)) :=
    ⟨evm_blind, fun U hU hW => ⟨rfl, by rw [hU], by rw [hU]; exact hP, va_K.moved hW.alike hK, hD.weaken (fun _ _ _ _ => trivial), NN.warm hW C.2.1.2⟩⟩
  have hstack : (F0 m pc ls ((As.reverse ++ vr i :: st).map (cv b ad))).stack = (As.map (cv b ad)).reverse ++ .ref (ad i) :: st.map (cv b ad) := by
    show (As.reverse ++ vr i :: st).map (cv b ad) = _
    rw [List.map_append, List.map_reverse]
    rfl
  have hroom : 2 * (F0 m pc ls ((As.reverse ++ vr i :: st).map (cv b ad))).monitorRoom + ((st.map (cv b ad)).map fun v => v.category).sum ≤ 8 := by
    rw [cat_sum]
    show 2 * 0 + _ ≤ 8
    omega
  have hlen : (As.map (cv b ad)).length = n := by rw [List.length_map]; exact hn
  refine ev_back (j := j) (a := (Value.ref (ad i) :: As.map (cv b ad)).toArray) C L S ?_ hok kk
  rcases hl with hl | ⟨host, hl⟩
  · exact va_runI ⟨C.1.1, C.1.2.1, C.1.2.2.1, C.1.2.2.2.1, C.1.2.2.2.2⟩ (hj l D b ad ws tys H.size hM)
      ⟨callB_of n C.1.2.2.2.2 hgood hww rfl rfl (C.1.2.2.2.2 _ hini) (C.1.2.2.2.2 _ hl) ⟨hx1, hx2, hpar⟩ hR, hy, C.1.2.2.2.2 _ hv⟩ hpre rfl hlen L.1 hstack hroom hd hc
  · exact va_runIN ⟨C.1.1, C.1.2.1, C.1.2.2.1, C.1.2.2.2.1, C.1.2.2.2.2⟩ (hj l D b ad ws tys H.size hM)
      ⟨va_cnB n C.1.2.2.2.2 hgood hww rfl rfl (C.2.1.2 _ hl) (C.1.2.2.2.2 _ hini) ⟨hx1, hx2, hpar⟩ hR, hy, C.1.2.2.2.2 _ hv⟩ hpre rfl hlen L.1 hstack hroom hd hc
theorem Ev.acopy {idx i0 i1 n0 n1 : Nat} {f g : Nat → Int32} {sp dp n : Int32} {h' : List AC} (hd : decode (mb q) pc = .ok (.invokestatic idx, 3)) (hw1 : Cond.methodLink (my q).cls idx arraycopyName ∈ Wt) (hw2 : Cond.native arraycopyName ∈ Wt) (hw3 : Cond.static arraycopyName ∈ Wt) (hw4 : Cond.initialized "java/lang/System" ∈ Wt)
    (h0 : h[i0]? = some (ai .int n0 f)) (h1 : h[i1]? = some (ai .int n1 g)) (g1 : ¬ sp < 0) (g2 : ¬ dp < 0) (g3 : ¬ n < 0) (g4 : sp.toNatClampNeg + n.toNatClampNeg ≤ n0) (g5 : dp.toNatClampNeg + n.toNatClampNeg ≤ n1) (hfr : 1 ≤ (mR q).frames) (hlo : st.length + (nativeFrameWords "java/lang/System" "arraycopy" 5 + 11) ≤ (mR q).locals)
    (hh : h.set i1 (ai .int n1 (va_cpy f g sp.toNatClampNeg dp.toNatClampNeg n.toNatClampNeg)) = h') (kk : Ev q X Φ (pc + 3) ρ st h' cu su) : Ev q X Φ pc ρ (vi n :: vi dp :: vr i1 :: vi sp :: vr i0 :: st) h cu su := by
  intro p l e s m args below meth c Q D b A m0 ad0 C ad ws tys H locs ls L S
  obtain ⟨hM, hP, hK, hD, hS, hag, hle⟩ := S
  obtain ⟨c0, t0, a1, a2⟩ := hM.2 i0 _ h0
  obtain ⟨c1, t1, a3, a4⟩ := hM.2 i1 _ h1
  subst hh
  refine va_copyi C.1.1 C.1.2.1 (by rw [C.1.2.2.1]; exact L.1.symm) C.1.2.2.2.1 (C.1.2.2.2.2 _ hw1) (C.1.2.2.2.2 _ hw2) (C.1.2.2.2.2 _ hw3) (C.1.2.2.2.2 _ hw4) hK hP hD hS i0 i1 t0 t1 a1 a3 a2 a4 rfl g1 g2 g3 g4 g5 (fun _ _ => rfl) hfr (by rw [cat_sum]; exact hlo) hd (fun H1 locs1 hP1 hD1 hS1 => ?_)
  exact kk p l e s m args below meth c Q D b A m0 ad0 C ad _ tys H1 locs1 ls L ⟨hm_set hM h1 (fun ws' hw' => ⟨c1, t1, hw', a4⟩), hP1, hK, hD1, hS1, by simpa using hag, by simpa using hle⟩
end EvCall
section EvEq
variable {q : MI} {X : Option (Nat × (Nat → Int32))} {Φ : Option AV → List AC → Prop} {pc : Nat} {ρ : List (Option AV)} {st : List AV} {h : List AC} {cu su : Nat}
theorem Ev.pce {pc' : Nat} (e : pc = pc') (k : Ev q X Φ pc' ρ st h cu su) : Ev q X Φ pc ρ st h cu su := e ▸ k
theorem Ev.cs {cu' su' : Nat} (e1 : cu = cu') (e2 : su = su') (k : Ev q X Φ pc ρ st h cu' su') : Ev q X Φ pc ρ st h cu su := e1 ▸ e2 ▸ k
theorem Ev.stk {st' : List AV} (e : st = st') (k : Ev q X Φ pc ρ st' h cu su) : Ev q X Φ pc ρ st h cu su := e ▸ k
theorem Ev.loc {ρ' : List (Option AV)} (e : ρ = ρ') (k : Ev q X Φ pc ρ' st h cu su) : Ev q X Φ pc ρ st h cu su := e ▸ k
end EvEq
end
section
/-! the state holds int fields (by cell and place) and arrays (by cell and index) -/
abbrev Sg : Type := Nat → Nat → Int32
def wr (s : Sg) (c k : Nat) (v : Int32) : Sg := fun c' => if c' = c then upd (s c) k v else s c'
def cpa (s : Sg) (c d sp dp n : Nat) : Sg := fun c' => if c' = d then va_cpy (s c) (s d) sp dp n else s c'
/-- the heap: every cell that the two objects hold, then what else there is -/
def HX (s : Sg) (R : List AC) : List AC :=
  ao 0 [vr 1, vr 3, vr 8, vr 16, vr 21, vr 23, vr 26, vr 29, vr 30, vi (s 0 9), vi (s 0 10)] ::
  ao 1 [vi (s 1 0), vi (s 1 1), vi (s 1 2), vr 2] ::
  ai .boolean 10 (s 2) ::
  ao 2 [vi (s 3 0), vr 4, vr 5, vr 6, vr 7] ::
  ai .int 60 (s 4) ::
  ai .int 60 (s 5) ::
  ai .int 60 (s 6) ::
  ai .boolean 60 (s 7) ::
  ao 3 [vi (s 8 0), vr 9, vr 10, vr 11, vr 12, vr 13, vr 14, vr 15] ::
  ai .int 40 (s 9) ::
  ai .int 40 (s 10) ::
  ai .int 40 (s 11) ::
  ai .int 40 (s 12) ::
  ai .boolean 40 (s 13) ::
  ai .boolean 40 (s 14) ::
  ai .boolean 40 (s 15) ::
  ao 4 [vi (s 16 0), vr 17, vr 18, vr 19, vr 20] ::
  ai .int 60 (s 17) ::
  ai .int 60 (s 18) ::
  ai .int 60 (s 19) ::
  ai .int 60 (s 20) ::
  ao 5 [vr 1, vr 3, vr 8, vr 16, vi (s 21 4), vi (s 21 5), vi (s 21 6), vi (s 21 7), vi (s 21 8), vi (s 21 9), vi (s 21 10), vr 22] ::
  ai .int 40 (s 22) ::
  ao 6 [vr 21, vr 24, vr 25, vi (s 23 3)] ::
  ai .int 220 (s 24) ::
  ai .int 220 (s 25) ::
  ao 6 [vr 21, vr 27, vr 28, vi (s 26 3)] ::
  ai .int 220 (s 27) ::
  ai .int 220 (s 28) ::
  ao 7 [vr 21, vr 23] ::
  ai .int 120 (s 30) ::
  ao 8 [vi (s 31 0), vi (s 31 1), vi (s 31 2), vi (s 31 3), vi (s 31 4), vi (s 31 5), vr 32, vr 33, vr 34, vr 35, vr 36, vr 37, vr 38, vr 39, vr 40, vr 41, vr 42, vr 43, vr 44, vr 45, vr 46, vr 47, vr 48, vr 49, vr 50, vi (s 31 25), vi (s 31 26), vi (s 31 27), vi (s 31 28), vi (s 31 29), vi (s 31 30), vr 51, vi (s 31 32), vi (s 31 33), vr 52, vr 53, vr 54, vr 55, vr 56, vr 57, vi (s 31 40), vr 58, vi (s 31 42), vr 59, vr 60, vi (s 31 45)] ::
  ai .boolean 10 (s 32) ::
  ai .boolean 10 (s 33) ::
  ai .boolean 10 (s 34) ::
  ai .int 60 (s 35) ::
  ai .int 60 (s 36) ::
  ai .int 60 (s 37) ::
  ai .boolean 60 (s 38) ::
  ai .int 40 (s 39) ::
  ai .int 40 (s 40) ::
  ai .int 40 (s 41) ::
  ai .boolean 40 (s 42) ::
  ai .boolean 40 (s 43) ::
  ai .boolean 40 (s 44) ::
  ai .int 400 (s 45) ::
  ai .int 400 (s 46) ::
  ai .int 60 (s 47) ::
  ai .int 60 (s 48) ::
  ai .int 60 (s 49) ::
  ai .int 60 (s 50) ::
  ai .boolean 10 (s 51) ::
  ai .int 20 (s 52) ::
  ai .int 80 (s 53) ::
  ai .int 120 (s 54) ::
  ai .int 20 (s 55) ::
  ai .int 80 (s 56) ::
  ai .int 120 (s 57) ::
  ai .int 120 (s 58) ::
  ai .int 400 (s 59) ::
  ai .int 400 (s 60) :: R
theorem HX_0 (s : Sg) (R : List AC) : (HX s R)[0]? = some (ao 0 [vr 1, vr 3, vr 8, vr 16, vr 21, vr 23, vr 26, vr 29, vr 30, vi (s 0 9), vi (s 0 10)]) := rfl
theorem HX_1 (s : Sg) (R : List AC) : (HX s R)[1]? = some (ao 1 [vi (s 1 0), vi (s 1 1), vi (s 1 2), vr 2]) := rfl
theorem HX_2 (s : Sg) (R : List AC) : (HX s R)[2]? = some (ai .boolean 10 (s 2)) := rfl
theorem HX_3 (s : Sg) (R : List AC) : (HX s R)[3]? = some (ao 2 [vi (s 3 0), vr 4, vr 5, vr 6, vr 7]) := rfl
theorem HX_4 (s : Sg) (R : List AC) : (HX s R)[4]? = some (ai .int 60 (s 4)) := rfl
theorem HX_5 (s : Sg) (R : List AC) : (HX s R)[5]? = some (ai .int 60 (s 5)) := rfl
theorem HX_6 (s : Sg) (R : List AC) : (HX s R)[6]? = some (ai .int 60 (s 6)) := rfl
theorem HX_7 (s : Sg) (R : List AC) : (HX s R)[7]? = some (ai .boolean 60 (s 7)) := rfl
theorem HX_8 (s : Sg) (R : List AC) : (HX s R)[8]? = some (ao 3 [vi (s 8 0), vr 9, vr 10, vr 11, vr 12, vr 13, vr 14, vr 15]) := rfl
theorem HX_9 (s : Sg) (R : List AC) : (HX s R)[9]? = some (ai .int 40 (s 9)) := rfl
theorem HX_10 (s : Sg) (R : List AC) : (HX s R)[10]? = some (ai .int 40 (s 10)) := rfl
theorem HX_11 (s : Sg) (R : List AC) : (HX s R)[11]? = some (ai .int 40 (s 11)) := rfl
theorem HX_12 (s : Sg) (R : List AC) : (HX s R)[12]? = some (ai .int 40 (s 12)) := rfl
theorem HX_13 (s : Sg) (R : List AC) : (HX s R)[13]? = some (ai .boolean 40 (s 13)) := rfl
theorem HX_14 (s : Sg) (R : List AC) : (HX s R)[14]? = some (ai .boolean 40 (s 14)) := rfl
theorem HX_15 (s : Sg) (R : List AC) : (HX s R)[15]? = some (ai .boolean 40 (s 15)) := rfl
theorem HX_16 (s : Sg) (R : List AC) : (HX s R)[16]? = some (ao 4 [vi (s 16 0), vr 17, vr 18, vr 19, vr 20]) := rfl
theorem HX_17 (s : Sg) (R : List AC) : (HX s R)[17]? = some (ai .int 60 (s 17)) := rfl
theorem HX_18 (s : Sg) (R : List AC) : (HX s R)[18]? = some (ai .int 60 (s 18)) := rfl
theorem HX_19 (s : Sg) (R : List AC) : (HX s R)[19]? = some (ai .int 60 (s 19)) := rfl
theorem HX_20 (s : Sg) (R : List AC) : (HX s R)[20]? = some (ai .int 60 (s 20)) := rfl
theorem HX_21 (s : Sg) (R : List AC) : (HX s R)[21]? = some (ao 5 [vr 1, vr 3, vr 8, vr 16, vi (s 21 4), vi (s 21 5), vi (s 21 6), vi (s 21 7), vi (s 21 8), vi (s 21 9), vi (s 21 10), vr 22]) := rfl
theorem HX_22 (s : Sg) (R : List AC) : (HX s R)[22]? = some (ai .int 40 (s 22)) := rfl
theorem HX_23 (s : Sg) (R : List AC) : (HX s R)[23]? = some (ao 6 [vr 21, vr 24, vr 25, vi (s 23 3)]) := rfl
theorem HX_24 (s : Sg) (R : List AC) : (HX s R)[24]? = some (ai .int 220 (s 24)) := rfl
theorem HX_25 (s : Sg) (R : List AC) : (HX s R)[25]? = some (ai .int 220 (s 25)) := rfl
theorem HX_26 (s : Sg) (R : List AC) : (HX s R)[26]? = some (ao 6 [vr 21, vr 27, vr 28, vi (s 26 3)]) := rfl
theorem HX_27 (s : Sg) (R : List AC) : (HX s R)[27]? = some (ai .int 220 (s 27)) := rfl
theorem HX_28 (s : Sg) (R : List AC) : (HX s R)[28]? = some (ai .int 220 (s 28)) := rfl
theorem HX_29 (s : Sg) (R : List AC) : (HX s R)[29]? = some (ao 7 [vr 21, vr 23]) := rfl
theorem HX_30 (s : Sg) (R : List AC) : (HX s R)[30]? = some (ai .int 120 (s 30)) := rfl
theorem HX_31 (s : Sg) (R : List AC) : (HX s R)[31]? = some (ao 8 [vi (s 31 0), vi (s 31 1), vi (s 31 2), vi (s 31 3), vi (s 31 4), vi (s 31 5), vr 32, vr 33, vr 34, vr 35, vr 36, vr 37, vr 38, vr 39, vr 40, vr 41, vr 42, vr 43, vr 44, vr 45, vr 46, vr 47, vr 48, vr 49, vr 50, vi (s 31 25), vi (s 31 26), vi (s 31 27), vi (s 31 28), vi (s 31 29), vi (s 31 30), vr 51, vi (s 31 32), vi (s 31 33), vr 52, vr 53, vr 54, vr 55, vr 56, vr 57, vi (s 31 40), vr 58, vi (s 31 42), vr 59, vr 60, vi (s 31 45)]) := rfl
theorem HX_32 (s : Sg) (R : List AC) : (HX s R)[32]? = some (ai .boolean 10 (s 32)) := rfl
theorem HX_33 (s : Sg) (R : List AC) : (HX s R)[33]? = some (ai .boolean 10 (s 33)) := rfl
theorem HX_34 (s : Sg) (R : List AC) : (HX s R)[34]? = some (ai .boolean 10 (s 34)) := rfl
theorem HX_35 (s : Sg) (R : List AC) : (HX s R)[35]? = some (ai .int 60 (s 35)) := rfl
theorem HX_36 (s : Sg) (R : List AC) : (HX s R)[36]? = some (ai .int 60 (s 36)) := rfl
theorem HX_37 (s : Sg) (R : List AC) : (HX s R)[37]? = some (ai .int 60 (s 37)) := rfl
theorem HX_38 (s : Sg) (R : List AC) : (HX s R)[38]? = some (ai .boolean 60 (s 38)) := rfl
theorem HX_39 (s : Sg) (R : List AC) : (HX s R)[39]? = some (ai .int 40 (s 39)) := rfl
theorem HX_40 (s : Sg) (R : List AC) : (HX s R)[40]? = some (ai .int 40 (s 40)) := rfl
theorem HX_41 (s : Sg) (R : List AC) : (HX s R)[41]? = some (ai .int 40 (s 41)) := rfl
theorem HX_42 (s : Sg) (R : List AC) : (HX s R)[42]? = some (ai .boolean 40 (s 42)) := rfl
theorem HX_43 (s : Sg) (R : List AC) : (HX s R)[43]? = some (ai .boolean 40 (s 43)) := rfl
theorem HX_44 (s : Sg) (R : List AC) : (HX s R)[44]? = some (ai .boolean 40 (s 44)) := rfl
theorem HX_45 (s : Sg) (R : List AC) : (HX s R)[45]? = some (ai .int 400 (s 45)) := rfl
theorem HX_46 (s : Sg) (R : List AC) : (HX s R)[46]? = some (ai .int 400 (s 46)) := rfl
theorem HX_47 (s : Sg) (R : List AC) : (HX s R)[47]? = some (ai .int 60 (s 47)) := rfl
theorem HX_48 (s : Sg) (R : List AC) : (HX s R)[48]? = some (ai .int 60 (s 48)) := rfl
theorem HX_49 (s : Sg) (R : List AC) : (HX s R)[49]? = some (ai .int 60 (s 49)) := rfl
theorem HX_50 (s : Sg) (R : List AC) : (HX s R)[50]? = some (ai .int 60 (s 50)) := rfl
theorem HX_51 (s : Sg) (R : List AC) : (HX s R)[51]? = some (ai .boolean 10 (s 51)) := rfl
theorem HX_52 (s : Sg) (R : List AC) : (HX s R)[52]? = some (ai .int 20 (s 52)) := rfl
theorem HX_53 (s : Sg) (R : List AC) : (HX s R)[53]? = some (ai .int 80 (s 53)) := rfl
theorem HX_54 (s : Sg) (R : List AC) : (HX s R)[54]? = some (ai .int 120 (s 54)) := rfl
theorem HX_55 (s : Sg) (R : List AC) : (HX s R)[55]? = some (ai .int 20 (s 55)) := rfl
theorem HX_56 (s : Sg) (R : List AC) : (HX s R)[56]? = some (ai .int 80 (s 56)) := rfl
theorem HX_57 (s : Sg) (R : List AC) : (HX s R)[57]? = some (ai .int 120 (s 57)) := rfl
theorem HX_58 (s : Sg) (R : List AC) : (HX s R)[58]? = some (ai .int 120 (s 58)) := rfl
theorem HX_59 (s : Sg) (R : List AC) : (HX s R)[59]? = some (ai .int 400 (s 59)) := rfl
theorem HX_60 (s : Sg) (R : List AC) : (HX s R)[60]? = some (ai .int 400 (s 60)) := rfl
theorem HXf_0_9 (s : Sg) (R : List AC) (v : Int32) : (HX s R).set 0 (ao 0 ([vr 1, vr 3, vr 8, vr 16, vr 21, vr 23, vr 26, vr 29, vr 30, vi (s 0 9), vi (s 0 10)].set 9 (vi v))) = HX (wr s 0 9 v) R := rfl
theorem HXf_0_10 (s : Sg) (R : List AC) (v : Int32) : (HX s R).set 0 (ao 0 ([vr 1, vr 3, vr 8, vr 16, vr 21, vr 23, vr 26, vr 29, vr 30, vi (s 0 9), vi (s 0 10)].set 10 (vi v))) = HX (wr s 0 10 v) R := rfl
theorem HXf_1_0 (s : Sg) (R : List AC) (v : Int32) : (HX s R).set 1 (ao 1 ([vi (s 1 0), vi (s 1 1), vi (s 1 2), vr 2].set 0 (vi v))) = HX (wr s 1 0 v) R := rfl
theorem HXf_1_1 (s : Sg) (R : List AC) (v : Int32) : (HX s R).set 1 (ao 1 ([vi (s 1 0), vi (s 1 1), vi (s 1 2), vr 2].set 1 (vi v))) = HX (wr s 1 1 v) R := rfl
theorem HXf_1_2 (s : Sg) (R : List AC) (v : Int32) : (HX s R).set 1 (ao 1 ([vi (s 1 0), vi (s 1 1), vi (s 1 2), vr 2].set 2 (vi v))) = HX (wr s 1 2 v) R := rfl
theorem HXa_2 (s : Sg) (R : List AC) (i : Nat) (v : Int32) : (HX s R).set 2 (ai .boolean 10 (upd (s 2) i v)) = HX (wr s 2 i v) R := rfl
theorem HXf_3_0 (s : Sg) (R : List AC) (v : Int32) : (HX s R).set 3 (ao 2 ([vi (s 3 0), vr 4, vr 5, vr 6, vr 7].set 0 (vi v))) = HX (wr s 3 0 v) R := rfl
theorem HXa_4 (s : Sg) (R : List AC) (i : Nat) (v : Int32) : (HX s R).set 4 (ai .int 60 (upd (s 4) i v)) = HX (wr s 4 i v) R := rfl
theorem HXa_5 (s : Sg) (R : List AC) (i : Nat) (v : Int32) : (HX s R).set 5 (ai .int 60 (upd (s 5) i v)) = HX (wr s 5 i v) R := rfl
theorem HXa_6 (s : Sg) (R : List AC) (i : Nat) (v : Int32) : (HX s R).set 6 (ai .int 60 (upd (s 6) i v)) = HX (wr s 6 i v) R := rfl
theorem HXa_7 (s : Sg) (R : List AC) (i : Nat) (v : Int32) : (HX s R).set 7 (ai .boolean 60 (upd (s 7) i v)) = HX (wr s 7 i v) R := rfl
theorem HXf_8_0 (s : Sg) (R : List AC) (v : Int32) : (HX s R).set 8 (ao 3 ([vi (s 8 0), vr 9, vr 10, vr 11, vr 12, vr 13, vr 14, vr 15].set 0 (vi v))) = HX (wr s 8 0 v) R := rfl
theorem HXa_9 (s : Sg) (R : List AC) (i : Nat) (v : Int32) : (HX s R).set 9 (ai .int 40 (upd (s 9) i v)) = HX (wr s 9 i v) R := rfl
theorem HXa_10 (s : Sg) (R : List AC) (i : Nat) (v : Int32) : (HX s R).set 10 (ai .int 40 (upd (s 10) i v)) = HX (wr s 10 i v) R := rfl
theorem HXa_11 (s : Sg) (R : List AC) (i : Nat) (v : Int32) : (HX s R).set 11 (ai .int 40 (upd (s 11) i v)) = HX (wr s 11 i v) R := rfl
theorem HXa_12 (s : Sg) (R : List AC) (i : Nat) (v : Int32) : (HX s R).set 12 (ai .int 40 (upd (s 12) i v)) = HX (wr s 12 i v) R := rfl
theorem HXa_13 (s : Sg) (R : List AC) (i : Nat) (v : Int32) : (HX s R).set 13 (ai .boolean 40 (upd (s 13) i v)) = HX (wr s 13 i v) R := rfl
theorem HXa_14 (s : Sg) (R : List AC) (i : Nat) (v : Int32) : (HX s R).set 14 (ai .boolean 40 (upd (s 14) i v)) = HX (wr s 14 i v) R := rfl
theorem HXa_15 (s : Sg) (R : List AC) (i : Nat) (v : Int32) : (HX s R).set 15 (ai .boolean 40 (upd (s 15) i v)) = HX (wr s 15 i v) R := rfl
theorem HXf_16_0 (s : Sg) (R : List AC) (v : Int32) : (HX s R).set 16 (ao 4 ([vi (s 16 0), vr 17, vr 18, vr 19, vr 20].set 0 (vi v))) = HX (wr s 16 0 v) R := rfl
theorem HXa_17 (s : Sg) (R : List AC) (i : Nat) (v : Int32) : (HX s R).set 17 (ai .int 60 (upd (s 17) i v)) = HX (wr s 17 i v) R := rfl
theorem HXa_18 (s : Sg) (R : List AC) (i : Nat) (v : Int32) : (HX s R).set 18 (ai .int 60 (upd (s 18) i v)) = HX (wr s 18 i v) R := rfl
theorem HXa_19 (s : Sg) (R : List AC) (i : Nat) (v : Int32) : (HX s R).set 19 (ai .int 60 (upd (s 19) i v)) = HX (wr s 19 i v) R := rfl
theorem HXa_20 (s : Sg) (R : List AC) (i : Nat) (v : Int32) : (HX s R).set 20 (ai .int 60 (upd (s 20) i v)) = HX (wr s 20 i v) R := rfl
theorem HXf_21_4 (s : Sg) (R : List AC) (v : Int32) : (HX s R).set 21 (ao 5 ([vr 1, vr 3, vr 8, vr 16, vi (s 21 4), vi (s 21 5), vi (s 21 6), vi (s 21 7), vi (s 21 8), vi (s 21 9), vi (s 21 10), vr 22].set 4 (vi v))) = HX (wr s 21 4 v) R := rfl
theorem HXf_21_5 (s : Sg) (R : List AC) (v : Int32) : (HX s R).set 21 (ao 5 ([vr 1, vr 3, vr 8, vr 16, vi (s 21 4), vi (s 21 5), vi (s 21 6), vi (s 21 7), vi (s 21 8), vi (s 21 9), vi (s 21 10), vr 22].set 5 (vi v))) = HX (wr s 21 5 v) R := rfl
theorem HXf_21_6 (s : Sg) (R : List AC) (v : Int32) : (HX s R).set 21 (ao 5 ([vr 1, vr 3, vr 8, vr 16, vi (s 21 4), vi (s 21 5), vi (s 21 6), vi (s 21 7), vi (s 21 8), vi (s 21 9), vi (s 21 10), vr 22].set 6 (vi v))) = HX (wr s 21 6 v) R := rfl
theorem HXf_21_7 (s : Sg) (R : List AC) (v : Int32) : (HX s R).set 21 (ao 5 ([vr 1, vr 3, vr 8, vr 16, vi (s 21 4), vi (s 21 5), vi (s 21 6), vi (s 21 7), vi (s 21 8), vi (s 21 9), vi (s 21 10), vr 22].set 7 (vi v))) = HX (wr s 21 7 v) R := rfl
theorem HXf_21_8 (s : Sg) (R : List AC) (v : Int32) : (HX s R).set 21 (ao 5 ([vr 1, vr 3, vr 8, vr 16, vi (s 21 4), vi (s 21 5), vi (s 21 6), vi (s 21 7), vi (s 21 8), vi (s 21 9), vi (s 21 10), vr 22].set 8 (vi v))) = HX (wr s 21 8 v) R := rfl
theorem HXf_21_9 (s : Sg) (R : List AC) (v : Int32) : (HX s R).set 21 (ao 5 ([vr 1, vr 3, vr 8, vr 16, vi (s 21 4), vi (s 21 5), vi (s 21 6), vi (s 21 7), vi (s 21 8), vi (s 21 9), vi (s 21 10), vr 22].set 9 (vi v))) = HX (wr s 21 9 v) R := rfl
theorem HXf_21_10 (s : Sg) (R : List AC) (v : Int32) : (HX s R).set 21 (ao 5 ([vr 1, vr 3, vr 8, vr 16, vi (s 21 4), vi (s 21 5), vi (s 21 6), vi (s 21 7), vi (s 21 8), vi (s 21 9), vi (s 21 10), vr 22].set 10 (vi v))) = HX (wr s 21 10 v) R := rfl
theorem HXa_22 (s : Sg) (R : List AC) (i : Nat) (v : Int32) : (HX s R).set 22 (ai .int 40 (upd (s 22) i v)) = HX (wr s 22 i v) R := rfl
theorem HXf_23_3 (s : Sg) (R : List AC) (v : Int32) : (HX s R).set 23 (ao 6 ([vr 21, vr 24, vr 25, vi (s 23 3)].set 3 (vi v))) = HX (wr s 23 3 v) R := rfl
theorem HXa_24 (s : Sg) (R : List AC) (i : Nat) (v : Int32) : (HX s R).set 24 (ai .int 220 (upd (s 24) i v)) = HX (wr s 24 i v) R := rfl
theorem HXa_25 (s : Sg) (R : List AC) (i : Nat) (v : Int32) : (HX s R).set 25 (ai .int 220 (upd (s 25) i v)) = HX (wr s 25 i v) R := rfl
theorem HXf_26_3 (s : Sg) (R : List AC) (v : Int32) : (HX s R).set 26 (ao 6 ([vr 21, vr 27, vr 28, vi (s 26 3)].set 3 (vi v))) = HX (wr s 26 3 v) R := rfl
theorem HXa_27 (s : Sg) (R : List AC) (i : Nat) (v : Int32) : (HX s R).set 27 (ai .int 220 (upd (s 27) i v)) = HX (wr s 27 i v) R := rfl
theorem HXa_28 (s : Sg) (R : List AC) (i : Nat) (v : Int32) : (HX s R).set 28 (ai .int 220 (upd (s 28) i v)) = HX (wr s 28 i v) R := rfl
theorem HXa_30 (s : Sg) (R : List AC) (i : Nat) (v : Int32) : (HX s R).set 30 (ai .int 120 (upd (s 30) i v)) = HX (wr s 30 i v) R := rfl
theorem HXf_31_0 (s : Sg) (R : List AC) (v : Int32) : (HX s R).set 31 (ao 8 ([vi (s 31 0), vi (s 31 1), vi (s 31 2), vi (s 31 3), vi (s 31 4), vi (s 31 5), vr 32, vr 33, vr 34, vr 35, vr 36, vr 37, vr 38, vr 39, vr 40, vr 41, vr 42, vr 43, vr 44, vr 45, vr 46, vr 47, vr 48, vr 49, vr 50, vi (s 31 25), vi (s 31 26), vi (s 31 27), vi (s 31 28), vi (s 31 29), vi (s 31 30), vr 51, vi (s 31 32), vi (s 31 33), vr 52, vr 53, vr 54, vr 55, vr 56, vr 57, vi (s 31 40), vr 58, vi (s 31 42), vr 59, vr 60, vi (s 31 45)].set 0 (vi v))) = HX (wr s 31 0 v) R := rfl
theorem HXf_31_1 (s : Sg) (R : List AC) (v : Int32) : (HX s R).set 31 (ao 8 ([vi (s 31 0), vi (s 31 1), vi (s 31 2), vi (s 31 3), vi (s 31 4), vi (s 31 5), vr 32, vr 33, vr 34, vr 35, vr 36, vr 37, vr 38, vr 39, vr 40, vr 41, vr 42, vr 43, vr 44, vr 45, vr 46, vr 47, vr 48, vr 49, vr 50, vi (s 31 25), vi (s 31 26), vi (s 31 27), vi (s 31 28), vi (s 31 29), vi (s 31 30), vr 51, vi (s 31 32), vi (s 31 33), vr 52, vr 53, vr 54, vr 55, vr 56, vr 57, vi (s 31 40), vr 58, vi (s 31 42), vr 59, vr 60, vi (s 31 45)].set 1 (vi v))) = HX (wr s 31 1 v) R := rfl
theorem HXf_31_2 (s : Sg) (R : List AC) (v : Int32) : (HX s R).set 31 (ao 8 ([vi (s 31 0), vi (s 31 1), vi (s 31 2), vi (s 31 3), vi (s 31 4), vi (s 31 5), vr 32, vr 33, vr 34, vr 35, vr 36, vr 37, vr 38, vr 39, vr 40, vr 41, vr 42, vr 43, vr 44, vr 45, vr 46, vr 47, vr 48, vr 49, vr 50, vi (s 31 25), vi (s 31 26), vi (s 31 27), vi (s 31 28), vi (s 31 29), vi (s 31 30), vr 51, vi (s 31 32), vi (s 31 33), vr 52, vr 53, vr 54, vr 55, vr 56, vr 57, vi (s 31 40), vr 58, vi (s 31 42), vr 59, vr 60, vi (s 31 45)].set 2 (vi v))) = HX (wr s 31 2 v) R := rfl
theorem HXf_31_3 (s : Sg) (R : List AC) (v : Int32) : (HX s R).set 31 (ao 8 ([vi (s 31 0), vi (s 31 1), vi (s 31 2), vi (s 31 3), vi (s 31 4), vi (s 31 5), vr 32, vr 33, vr 34, vr 35, vr 36, vr 37, vr 38, vr 39, vr 40, vr 41, vr 42, vr 43, vr 44, vr 45, vr 46, vr 47, vr 48, vr 49, vr 50, vi (s 31 25), vi (s 31 26), vi (s 31 27), vi (s 31 28), vi (s 31 29), vi (s 31 30), vr 51, vi (s 31 32), vi (s 31 33), vr 52, vr 53, vr 54, vr 55, vr 56, vr 57, vi (s 31 40), vr 58, vi (s 31 42), vr 59, vr 60, vi (s 31 45)].set 3 (vi v))) = HX (wr s 31 3 v) R := rfl
theorem HXf_31_4 (s : Sg) (R : List AC) (v : Int32) : (HX s R).set 31 (ao 8 ([vi (s 31 0), vi (s 31 1), vi (s 31 2), vi (s 31 3), vi (s 31 4), vi (s 31 5), vr 32, vr 33, vr 34, vr 35, vr 36, vr 37, vr 38, vr 39, vr 40, vr 41, vr 42, vr 43, vr 44, vr 45, vr 46, vr 47, vr 48, vr 49, vr 50, vi (s 31 25), vi (s 31 26), vi (s 31 27), vi (s 31 28), vi (s 31 29), vi (s 31 30), vr 51, vi (s 31 32), vi (s 31 33), vr 52, vr 53, vr 54, vr 55, vr 56, vr 57, vi (s 31 40), vr 58, vi (s 31 42), vr 59, vr 60, vi (s 31 45)].set 4 (vi v))) = HX (wr s 31 4 v) R := rfl
theorem HXf_31_5 (s : Sg) (R : List AC) (v : Int32) : (HX s R).set 31 (ao 8 ([vi (s 31 0), vi (s 31 1), vi (s 31 2), vi (s 31 3), vi (s 31 4), vi (s 31 5), vr 32, vr 33, vr 34, vr 35, vr 36, vr 37, vr 38, vr 39, vr 40, vr 41, vr 42, vr 43, vr 44, vr 45, vr 46, vr 47, vr 48, vr 49, vr 50, vi (s 31 25), vi (s 31 26), vi (s 31 27), vi (s 31 28), vi (s 31 29), vi (s 31 30), vr 51, vi (s 31 32), vi (s 31 33), vr 52, vr 53, vr 54, vr 55, vr 56, vr 57, vi (s 31 40), vr 58, vi (s 31 42), vr 59, vr 60, vi (s 31 45)].set 5 (vi v))) = HX (wr s 31 5 v) R := rfl
theorem HXf_31_25 (s : Sg) (R : List AC) (v : Int32) : (HX s R).set 31 (ao 8 ([vi (s 31 0), vi (s 31 1), vi (s 31 2), vi (s 31 3), vi (s 31 4), vi (s 31 5), vr 32, vr 33, vr 34, vr 35, vr 36, vr 37, vr 38, vr 39, vr 40, vr 41, vr 42, vr 43, vr 44, vr 45, vr 46, vr 47, vr 48, vr 49, vr 50, vi (s 31 25), vi (s 31 26), vi (s 31 27), vi (s 31 28), vi (s 31 29), vi (s 31 30), vr 51, vi (s 31 32), vi (s 31 33), vr 52, vr 53, vr 54, vr 55, vr 56, vr 57, vi (s 31 40), vr 58, vi (s 31 42), vr 59, vr 60, vi (s 31 45)].set 25 (vi v))) = HX (wr s 31 25 v) R := rfl
theorem HXf_31_26 (s : Sg) (R : List AC) (v : Int32) : (HX s R).set 31 (ao 8 ([vi (s 31 0), vi (s 31 1), vi (s 31 2), vi (s 31 3), vi (s 31 4), vi (s 31 5), vr 32, vr 33, vr 34, vr 35, vr 36, vr 37, vr 38, vr 39, vr 40, vr 41, vr 42, vr 43, vr 44, vr 45, vr 46, vr 47, vr 48, vr 49, vr 50, vi (s 31 25), vi (s 31 26), vi (s 31 27), vi (s 31 28), vi (s 31 29), vi (s 31 30), vr 51, vi (s 31 32), vi (s 31 33), vr 52, vr 53, vr 54, vr 55, vr 56, vr 57, vi (s 31 40), vr 58, vi (s 31 42), vr 59, vr 60, vi (s 31 45)].set 26 (vi v))) = HX (wr s 31 26 v) R := rfl
theorem HXf_31_27 (s : Sg) (R : List AC) (v : Int32) : (HX s R).set 31 (ao 8 ([vi (s 31 0), vi (s 31 1), vi (s 31 2), vi (s 31 3), vi (s 31 4), vi (s 31 5), vr 32, vr 33, vr 34, vr 35, vr 36, vr 37, vr 38, vr 39, vr 40, vr 41, vr 42, vr 43, vr 44, vr 45, vr 46, vr 47, vr 48, vr 49, vr 50, vi (s 31 25), vi (s 31 26), vi (s 31 27), vi (s 31 28), vi (s 31 29), vi (s 31 30), vr 51, vi (s 31 32), vi (s 31 33), vr 52, vr 53, vr 54, vr 55, vr 56, vr 57, vi (s 31 40), vr 58, vi (s 31 42), vr 59, vr 60, vi (s 31 45)].set 27 (vi v))) = HX (wr s 31 27 v) R := rfl
theorem HXf_31_28 (s : Sg) (R : List AC) (v : Int32) : (HX s R).set 31 (ao 8 ([vi (s 31 0), vi (s 31 1), vi (s 31 2), vi (s 31 3), vi (s 31 4), vi (s 31 5), vr 32, vr 33, vr 34, vr 35, vr 36, vr 37, vr 38, vr 39, vr 40, vr 41, vr 42, vr 43, vr 44, vr 45, vr 46, vr 47, vr 48, vr 49, vr 50, vi (s 31 25), vi (s 31 26), vi (s 31 27), vi (s 31 28), vi (s 31 29), vi (s 31 30), vr 51, vi (s 31 32), vi (s 31 33), vr 52, vr 53, vr 54, vr 55, vr 56, vr 57, vi (s 31 40), vr 58, vi (s 31 42), vr 59, vr 60, vi (s 31 45)].set 28 (vi v))) = HX (wr s 31 28 v) R := rfl
theorem HXf_31_29 (s : Sg) (R : List AC) (v : Int32) : (HX s R).set 31 (ao 8 ([vi (s 31 0), vi (s 31 1), vi (s 31 2), vi (s 31 3), vi (s 31 4), vi (s 31 5), vr 32, vr 33, vr 34, vr 35, vr 36, vr 37, vr 38, vr 39, vr 40, vr 41, vr 42, vr 43, vr 44, vr 45, vr 46, vr 47, vr 48, vr 49, vr 50, vi (s 31 25), vi (s 31 26), vi (s 31 27), vi (s 31 28), vi (s 31 29), vi (s 31 30), vr 51, vi (s 31 32), vi (s 31 33), vr 52, vr 53, vr 54, vr 55, vr 56, vr 57, vi (s 31 40), vr 58, vi (s 31 42), vr 59, vr 60, vi (s 31 45)].set 29 (vi v))) = HX (wr s 31 29 v) R := rfl
theorem HXf_31_30 (s : Sg) (R : List AC) (v : Int32) : (HX s R).set 31 (ao 8 ([vi (s 31 0), vi (s 31 1), vi (s 31 2), vi (s 31 3), vi (s 31 4), vi (s 31 5), vr 32, vr 33, vr 34, vr 35, vr 36, vr 37, vr 38, vr 39, vr 40, vr 41, vr 42, vr 43, vr 44, vr 45, vr 46, vr 47, vr 48, vr 49, vr 50, vi (s 31 25), vi (s 31 26), vi (s 31 27), vi (s 31 28), vi (s 31 29), vi (s 31 30), vr 51, vi (s 31 32), vi (s 31 33), vr 52, vr 53, vr 54, vr 55, vr 56, vr 57, vi (s 31 40), vr 58, vi (s 31 42), vr 59, vr 60, vi (s 31 45)].set 30 (vi v))) = HX (wr s 31 30 v) R := rfl
theorem HXf_31_32 (s : Sg) (R : List AC) (v : Int32) : (HX s R).set 31 (ao 8 ([vi (s 31 0), vi (s 31 1), vi (s 31 2), vi (s 31 3), vi (s 31 4), vi (s 31 5), vr 32, vr 33, vr 34, vr 35, vr 36, vr 37, vr 38, vr 39, vr 40, vr 41, vr 42, vr 43, vr 44, vr 45, vr 46, vr 47, vr 48, vr 49, vr 50, vi (s 31 25), vi (s 31 26), vi (s 31 27), vi (s 31 28), vi (s 31 29), vi (s 31 30), vr 51, vi (s 31 32), vi (s 31 33), vr 52, vr 53, vr 54, vr 55, vr 56, vr 57, vi (s 31 40), vr 58, vi (s 31 42), vr 59, vr 60, vi (s 31 45)].set 32 (vi v))) = HX (wr s 31 32 v) R := rfl
theorem HXf_31_33 (s : Sg) (R : List AC) (v : Int32) : (HX s R).set 31 (ao 8 ([vi (s 31 0), vi (s 31 1), vi (s 31 2), vi (s 31 3), vi (s 31 4), vi (s 31 5), vr 32, vr 33, vr 34, vr 35, vr 36, vr 37, vr 38, vr 39, vr 40, vr 41, vr 42, vr 43, vr 44, vr 45, vr 46, vr 47, vr 48, vr 49, vr 50, vi (s 31 25), vi (s 31 26), vi (s 31 27), vi (s 31 28), vi (s 31 29), vi (s 31 30), vr 51, vi (s 31 32), vi (s 31 33), vr 52, vr 53, vr 54, vr 55, vr 56, vr 57, vi (s 31 40), vr 58, vi (s 31 42), vr 59, vr 60, vi (s 31 45)].set 33 (vi v))) = HX (wr s 31 33 v) R := rfl
theorem HXf_31_40 (s : Sg) (R : List AC) (v : Int32) : (HX s R).set 31 (ao 8 ([vi (s 31 0), vi (s 31 1), vi (s 31 2), vi (s 31 3), vi (s 31 4), vi (s 31 5), vr 32, vr 33, vr 34, vr 35, vr 36, vr 37, vr 38, vr 39, vr 40, vr 41, vr 42, vr 43, vr 44, vr 45, vr 46, vr 47, vr 48, vr 49, vr 50, vi (s 31 25), vi (s 31 26), vi (s 31 27), vi (s 31 28), vi (s 31 29), vi (s 31 30), vr 51, vi (s 31 32), vi (s 31 33), vr 52, vr 53, vr 54, vr 55, vr 56, vr 57, vi (s 31 40), vr 58, vi (s 31 42), vr 59, vr 60, vi (s 31 45)].set 40 (vi v))) = HX (wr s 31 40 v) R := rfl
theorem HXf_31_42 (s : Sg) (R : List AC) (v : Int32) : (HX s R).set 31 (ao 8 ([vi (s 31 0), vi (s 31 1), vi (s 31 2), vi (s 31 3), vi (s 31 4), vi (s 31 5), vr 32, vr 33, vr 34, vr 35, vr 36, vr 37, vr 38, vr 39, vr 40, vr 41, vr 42, vr 43, vr 44, vr 45, vr 46, vr 47, vr 48, vr 49, vr 50, vi (s 31 25), vi (s 31 26), vi (s 31 27), vi (s 31 28), vi (s 31 29), vi (s 31 30), vr 51, vi (s 31 32), vi (s 31 33), vr 52, vr 53, vr 54, vr 55, vr 56, vr 57, vi (s 31 40), vr 58, vi (s 31 42), vr 59, vr 60, vi (s 31 45)].set 42 (vi v))) = HX (wr s 31 42 v) R := rfl
theorem HXf_31_45 (s : Sg) (R : List AC) (v : Int32) : (HX s R).set 31 (ao 8 ([vi (s 31 0), vi (s 31 1), vi (s 31 2), vi (s 31 3), vi (s 31 4), vi (s 31 5), vr 32, vr 33, vr 34, vr 35, vr 36, vr 37, vr 38, vr 39, vr 40, vr 41, vr 42, vr 43, vr 44, vr 45, vr 46, vr 47, vr 48, vr 49, vr 50, vi (s 31 25), vi (s 31 26), vi (s 31 27), vi (s 31 28), vi (s 31 29), vi (s 31 30), vr 51, vi (s 31 32), vi (s 31 33), vr 52, vr 53, vr 54, vr 55, vr 56, vr 57, vi (s 31 40), vr 58, vi (s 31 42), vr 59, vr 60, vi (s 31 45)].set 45 (vi v))) = HX (wr s 31 45 v) R := rfl
theorem HXa_32 (s : Sg) (R : List AC) (i : Nat) (v : Int32) : (HX s R).set 32 (ai .boolean 10 (upd (s 32) i v)) = HX (wr s 32 i v) R := rfl
theorem HXa_33 (s : Sg) (R : List AC) (i : Nat) (v : Int32) : (HX s R).set 33 (ai .boolean 10 (upd (s 33) i v)) = HX (wr s 33 i v) R := rfl
theorem HXa_34 (s : Sg) (R : List AC) (i : Nat) (v : Int32) : (HX s R).set 34 (ai .boolean 10 (upd (s 34) i v)) = HX (wr s 34 i v) R := rfl
theorem HXa_35 (s : Sg) (R : List AC) (i : Nat) (v : Int32) : (HX s R).set 35 (ai .int 60 (upd (s 35) i v)) = HX (wr s 35 i v) R := rfl
theorem HXa_36 (s : Sg) (R : List AC) (i : Nat) (v : Int32) : (HX s R).set 36 (ai .int 60 (upd (s 36) i v)) = HX (wr s 36 i v) R := rfl
theorem HXa_37 (s : Sg) (R : List AC) (i : Nat) (v : Int32) : (HX s R).set 37 (ai .int 60 (upd (s 37) i v)) = HX (wr s 37 i v) R := rfl
theorem HXa_38 (s : Sg) (R : List AC) (i : Nat) (v : Int32) : (HX s R).set 38 (ai .boolean 60 (upd (s 38) i v)) = HX (wr s 38 i v) R := rfl
theorem HXa_39 (s : Sg) (R : List AC) (i : Nat) (v : Int32) : (HX s R).set 39 (ai .int 40 (upd (s 39) i v)) = HX (wr s 39 i v) R := rfl
theorem HXa_40 (s : Sg) (R : List AC) (i : Nat) (v : Int32) : (HX s R).set 40 (ai .int 40 (upd (s 40) i v)) = HX (wr s 40 i v) R := rfl
theorem HXa_41 (s : Sg) (R : List AC) (i : Nat) (v : Int32) : (HX s R).set 41 (ai .int 40 (upd (s 41) i v)) = HX (wr s 41 i v) R := rfl
theorem HXa_42 (s : Sg) (R : List AC) (i : Nat) (v : Int32) : (HX s R).set 42 (ai .boolean 40 (upd (s 42) i v)) = HX (wr s 42 i v) R := rfl
theorem HXa_43 (s : Sg) (R : List AC) (i : Nat) (v : Int32) : (HX s R).set 43 (ai .boolean 40 (upd (s 43) i v)) = HX (wr s 43 i v) R := rfl
theorem HXa_44 (s : Sg) (R : List AC) (i : Nat) (v : Int32) : (HX s R).set 44 (ai .boolean 40 (upd (s 44) i v)) = HX (wr s 44 i v) R := rfl
theorem HXa_45 (s : Sg) (R : List AC) (i : Nat) (v : Int32) : (HX s R).set 45 (ai .int 400 (upd (s 45) i v)) = HX (wr s 45 i v) R := rfl
theorem HXa_46 (s : Sg) (R : List AC) (i : Nat) (v : Int32) : (HX s R).set 46 (ai .int 400 (upd (s 46) i v)) = HX (wr s 46 i v) R := rfl
theorem HXa_47 (s : Sg) (R : List AC) (i : Nat) (v : Int32) : (HX s R).set 47 (ai .int 60 (upd (s 47) i v)) = HX (wr s 47 i v) R := rfl
theorem HXa_48 (s : Sg) (R : List AC) (i : Nat) (v : Int32) : (HX s R).set 48 (ai .int 60 (upd (s 48) i v)) = HX (wr s 48 i v) R := rfl
theorem HXa_49 (s : Sg) (R : List AC) (i : Nat) (v : Int32) : (HX s R).set 49 (ai .int 60 (upd (s 49) i v)) = HX (wr s 49 i v) R := rfl
theorem HXa_50 (s : Sg) (R : List AC) (i : Nat) (v : Int32) : (HX s R).set 50 (ai .int 60 (upd (s 50) i v)) = HX (wr s 50 i v) R := rfl
theorem HXa_51 (s : Sg) (R : List AC) (i : Nat) (v : Int32) : (HX s R).set 51 (ai .boolean 10 (upd (s 51) i v)) = HX (wr s 51 i v) R := rfl
theorem HXa_52 (s : Sg) (R : List AC) (i : Nat) (v : Int32) : (HX s R).set 52 (ai .int 20 (upd (s 52) i v)) = HX (wr s 52 i v) R := rfl
theorem HXa_53 (s : Sg) (R : List AC) (i : Nat) (v : Int32) : (HX s R).set 53 (ai .int 80 (upd (s 53) i v)) = HX (wr s 53 i v) R := rfl
theorem HXa_54 (s : Sg) (R : List AC) (i : Nat) (v : Int32) : (HX s R).set 54 (ai .int 120 (upd (s 54) i v)) = HX (wr s 54 i v) R := rfl
theorem HXa_55 (s : Sg) (R : List AC) (i : Nat) (v : Int32) : (HX s R).set 55 (ai .int 20 (upd (s 55) i v)) = HX (wr s 55 i v) R := rfl
theorem HXa_56 (s : Sg) (R : List AC) (i : Nat) (v : Int32) : (HX s R).set 56 (ai .int 80 (upd (s 56) i v)) = HX (wr s 56 i v) R := rfl
theorem HXa_57 (s : Sg) (R : List AC) (i : Nat) (v : Int32) : (HX s R).set 57 (ai .int 120 (upd (s 57) i v)) = HX (wr s 57 i v) R := rfl
theorem HXa_58 (s : Sg) (R : List AC) (i : Nat) (v : Int32) : (HX s R).set 58 (ai .int 120 (upd (s 58) i v)) = HX (wr s 58 i v) R := rfl
theorem HXa_59 (s : Sg) (R : List AC) (i : Nat) (v : Int32) : (HX s R).set 59 (ai .int 400 (upd (s 59) i v)) = HX (wr s 59 i v) R := rfl
theorem HXa_60 (s : Sg) (R : List AC) (i : Nat) (v : Int32) : (HX s R).set 60 (ai .int 400 (upd (s 60) i v)) = HX (wr s 60 i v) R := rfl
theorem HXc_12_22 (s : Sg) (R : List AC) (sp dp n : Nat) : (HX s R).set 22 (ai .int 40 (va_cpy (s 12) (s 22) sp dp n)) = HX (cpa s 12 22 sp dp n) R := rfl
theorem kB_m3 : (Int8.ofInt (-3)).toInt32 = ((-3) : Int32) := by decide +kernel
theorem kB_m2 : (Int8.ofInt (-2)).toInt32 = ((-2) : Int32) := by decide +kernel
theorem kB_6 : (Int8.ofInt 6).toInt32 = (6 : Int32) := by decide +kernel
theorem kB_7 : (Int8.ofInt 7).toInt32 = (7 : Int32) := by decide +kernel
theorem kB_8 : (Int8.ofInt 8).toInt32 = (8 : Int32) := by decide +kernel
theorem kB_10 : (Int8.ofInt 10).toInt32 = (10 : Int32) := by decide +kernel
theorem kB_15 : (Int8.ofInt 15).toInt32 = (15 : Int32) := by decide +kernel
theorem kB_20 : (Int8.ofInt 20).toInt32 = (20 : Int32) := by decide +kernel
theorem kB_32 : (Int8.ofInt 32).toInt32 = (32 : Int32) := by decide +kernel
theorem kB_40 : (Int8.ofInt 40).toInt32 = (40 : Int32) := by decide +kernel
theorem kB_60 : (Int8.ofInt 60).toInt32 = (60 : Int32) := by decide +kernel
theorem kB_80 : (Int8.ofInt 80).toInt32 = (80 : Int32) := by decide +kernel
theorem kB_100 : (Int8.ofInt 100).toInt32 = (100 : Int32) := by decide +kernel
theorem kB_120 : (Int8.ofInt 120).toInt32 = (120 : Int32) := by decide +kernel
theorem kI_m1 : Int32.ofInt (-1) = ((-1) : Int32) := by decide +kernel
theorem kI_0 : Int32.ofInt 0 = (0 : Int32) := by decide +kernel
theorem kI_1 : Int32.ofInt 1 = (1 : Int32) := by decide +kernel
theorem kI_2 : Int32.ofInt 2 = (2 : Int32) := by decide +kernel
theorem kI_3 : Int32.ofInt 3 = (3 : Int32) := by decide +kernel
theorem kI_4 : Int32.ofInt 4 = (4 : Int32) := by decide +kernel
theorem kI_5 : Int32.ofInt 5 = (5 : Int32) := by decide +kernel
theorem kI_7 : Int32.ofInt 7 = (7 : Int32) := by decide +kernel
theorem kS_128 : (Int16.ofInt 128).toInt32 = (128 : Int32) := by decide +kernel
theorem kS_220 : (Int16.ofInt 220).toInt32 = (220 : Int32) := by decide +kernel
theorem kS_400 : (Int16.ofInt 400).toInt32 = (400 : Int32) := by decide +kernel
theorem kS_896 : (Int16.ofInt 896).toInt32 = (896 : Int32) := by decide +kernel
theorem kS_1000 : (Int16.ofInt 1000).toInt32 = (1000 : Int32) := by decide +kernel
theorem sw_out0_6 {x : Int32} (g0 : ¬ x = 0) (g1 : ¬ x = 1) (g2 : ¬ x = 2) (g3 : ¬ x = 3) (g4 : ¬ x = 4) (g5 : ¬ x = 5) (g6 : ¬ x = 6) : x.toInt < 0 ∨ 6 < x.toInt := by
  have a0 : x.toInt ≠ 0 := fun h => g0 (Int32.toInt_inj.mp (h.trans (by decide +kernel)))
  have a1 : x.toInt ≠ 1 := fun h => g1 (Int32.toInt_inj.mp (h.trans (by decide +kernel)))
  have a2 : x.toInt ≠ 2 := fun h => g2 (Int32.toInt_inj.mp (h.trans (by decide +kernel)))
  have a3 : x.toInt ≠ 3 := fun h => g3 (Int32.toInt_inj.mp (h.trans (by decide +kernel)))
  have a4 : x.toInt ≠ 4 := fun h => g4 (Int32.toInt_inj.mp (h.trans (by decide +kernel)))
  have a5 : x.toInt ≠ 5 := fun h => g5 (Int32.toInt_inj.mp (h.trans (by decide +kernel)))
  have a6 : x.toInt ≠ 6 := fun h => g6 (Int32.toInt_inj.mp (h.trans (by decide +kernel)))
  omega
theorem sw_out0_14 {x : Int32} (g0 : ¬ x = 0) (g1 : ¬ x = 1) (g2 : ¬ x = 2) (g3 : ¬ x = 3) (g4 : ¬ x = 4) (g5 : ¬ x = 5) (g6 : ¬ x = 6) (g7 : ¬ x = 7) (g8 : ¬ x = 8) (g9 : ¬ x = 9) (g10 : ¬ x = 10) (g11 : ¬ x = 11) (g12 : ¬ x = 12) (g13 : ¬ x = 13) (g14 : ¬ x = 14) : x.toInt < 0 ∨ 14 < x.toInt := by
  have a0 : x.toInt ≠ 0 := fun h => g0 (Int32.toInt_inj.mp (h.trans (by decide +kernel)))
  have a1 : x.toInt ≠ 1 := fun h => g1 (Int32.toInt_inj.mp (h.trans (by decide +kernel)))
  have a2 : x.toInt ≠ 2 := fun h => g2 (Int32.toInt_inj.mp (h.trans (by decide +kernel)))
  have a3 : x.toInt ≠ 3 := fun h => g3 (Int32.toInt_inj.mp (h.trans (by decide +kernel)))
  have a4 : x.toInt ≠ 4 := fun h => g4 (Int32.toInt_inj.mp (h.trans (by decide +kernel)))
  have a5 : x.toInt ≠ 5 := fun h => g5 (Int32.toInt_inj.mp (h.trans (by decide +kernel)))
  have a6 : x.toInt ≠ 6 := fun h => g6 (Int32.toInt_inj.mp (h.trans (by decide +kernel)))
  have a7 : x.toInt ≠ 7 := fun h => g7 (Int32.toInt_inj.mp (h.trans (by decide +kernel)))
  have a8 : x.toInt ≠ 8 := fun h => g8 (Int32.toInt_inj.mp (h.trans (by decide +kernel)))
  have a9 : x.toInt ≠ 9 := fun h => g9 (Int32.toInt_inj.mp (h.trans (by decide +kernel)))
  have a10 : x.toInt ≠ 10 := fun h => g10 (Int32.toInt_inj.mp (h.trans (by decide +kernel)))
  have a11 : x.toInt ≠ 11 := fun h => g11 (Int32.toInt_inj.mp (h.trans (by decide +kernel)))
  have a12 : x.toInt ≠ 12 := fun h => g12 (Int32.toInt_inj.mp (h.trans (by decide +kernel)))
  have a13 : x.toInt ≠ 13 := fun h => g13 (Int32.toInt_inj.mp (h.trans (by decide +kernel)))
  have a14 : x.toInt ≠ 14 := fun h => g14 (Int32.toInt_inj.mp (h.trans (by decide +kernel)))
  omega
end
section
/-! a method's rest as a function: the state s holds int fields (by cell and place) and arrays (by cell and index) -/
abbrev Ro : Type := Option (Int32 × Sg)
def ix (x : Int32) : Nat := x.toNatClampNeg
def inb (x : Int32) (n : Nat) : Bool := !decide (x < 0) && decide (ix x < n)
theorem inb_in {x : Int32} {n : Nat} (h : inb x n = true) : vp_in x n := by
  simp only [inb, Bool.and_eq_true, Bool.not_eq_true', decide_eq_false_iff_not, decide_eq_true_eq] at h
  intro g
  rcases g with g | g
  · exact h.1 g
  · exact absurd h.2 (Nat.not_lt.mpr g)
def isb (x : Int32) : Bool := decide (x = 0) || decide (x = 1)
theorem isb_or {x : Int32} (h : isb x = true) : x = 0 ∨ x = 1 := by simpa [isb] using h
theorem isb_nar {x : Int32} (h : isb x = true) : vp_nar .boolean x = x := by
  rcases isb_or h with rfl | rfl <;> rfl
theorem isb_narrow {x : Int32} (h : isb x = true) : narrow .boolean (.int x) = .int x := by
  rcases isb_or h with rfl | rfl <;> rfl
def nz (x : Int32) : Int32 := if x = 0 then 0 else 1
def bnd (f : Ro) (k : Int32 → Sg → Ro) : Ro := match f with
  | none => none
  | some (v, s) => k v s
theorem bnd_some (v : Int32) (s : Sg) (k : Int32 → Sg → Ro) : bnd (some (v, s)) k = k v s := rfl

def PQ (q : MI) (R : List AC) (out : Int32 × Sg) : Option AV → List AC → Prop := fun r h' => r = (mr q).map (fun _ => vi out.1) ∧ h' = HX out.2 R
def Gd (q : MI) (X : Option (Nat × (Nat → Int32))) (pc : Nat) (ρ : List (Option AV)) (st : List AV) (s : Sg) (R : List AC) (cu su : Nat) (o : Ro) : Prop := ∀ out, o = some out → Ev q X (PQ q R out) pc ρ st (HX s R) cu su
/-- a method's contract: it computes f -/
def Ct (q : MI) (avs : List AV) (s : Sg) (R : List AC) (f : Ro) : Prop := ∀ out, f = some out → EvM q avs (HX s R) (PQ q R out)
theorem Ct.of {q : MI} {avs : List AV} {s : Sg} {R : List AC} {f : Ro} (hy : plainName (my q).cls = true) (hn : decide (avs.length ≤ ml q) = true) {ρ : List (Option AV)} (hρ : avs.map some ++ List.replicate (ml q - avs.length) none = ρ) (k : Gd q none 0 ρ [] s R 0 0 f) : Ct q avs s R f := fun out e => EvM.of hy (of_decide_eq_true hn) (by rw [hρ]; exact k out e)

def itr1 (F : (Int32 → Sg → Ro) → Int32 → Sg → Ro) : Nat → Int32 → Sg → Ro
  | 0, _, _ => none
  | n + 1, x1, s => F (itr1 F n) x1 s
def itr2 (F : (Int32 → Int32 → Sg → Ro) → Int32 → Int32 → Sg → Ro) : Nat → Int32 → Int32 → Sg → Ro
  | 0, _, _, _ => none
  | n + 1, x1, x2, s => F (itr2 F n) x1 x2 s
def itr3 (F : (Int32 → Int32 → Int32 → Sg → Ro) → Int32 → Int32 → Int32 → Sg → Ro) : Nat → Int32 → Int32 → Int32 → Sg → Ro
  | 0, _, _, _, _ => none
  | n + 1, x1, x2, x3, s => F (itr3 F n) x1 x2 x3 s
def itr4 (F : (Int32 → Int32 → Int32 → Int32 → Sg → Ro) → Int32 → Int32 → Int32 → Int32 → Sg → Ro) : Nat → Int32 → Int32 → Int32 → Int32 → Sg → Ro
  | 0, _, _, _, _, _ => none
  | n + 1, x1, x2, x3, x4, s => F (itr4 F n) x1 x2 x3 x4 s
def itr5 (F : (Int32 → Int32 → Int32 → Int32 → Int32 → Sg → Ro) → Int32 → Int32 → Int32 → Int32 → Int32 → Sg → Ro) : Nat → Int32 → Int32 → Int32 → Int32 → Int32 → Sg → Ro
  | 0, _, _, _, _, _, _ => none
  | n + 1, x1, x2, x3, x4, x5, s => F (itr5 F n) x1 x2 x3 x4 x5 s
def itr6 (F : (Int32 → Int32 → Int32 → Int32 → Int32 → Int32 → Sg → Ro) → Int32 → Int32 → Int32 → Int32 → Int32 → Int32 → Sg → Ro) : Nat → Int32 → Int32 → Int32 → Int32 → Int32 → Int32 → Sg → Ro
  | 0, _, _, _, _, _, _, _ => none
  | n + 1, x1, x2, x3, x4, x5, x6, s => F (itr6 F n) x1 x2 x3 x4 x5 x6 s
def itr7 (F : (Int32 → Int32 → Int32 → Int32 → Int32 → Int32 → Int32 → Sg → Ro) → Int32 → Int32 → Int32 → Int32 → Int32 → Int32 → Int32 → Sg → Ro) : Nat → Int32 → Int32 → Int32 → Int32 → Int32 → Int32 → Int32 → Sg → Ro
  | 0, _, _, _, _, _, _, _, _ => none
  | n + 1, x1, x2, x3, x4, x5, x6, x7, s => F (itr7 F n) x1 x2 x3 x4 x5 x6 x7 s
def itr8 (F : (Int32 → Int32 → Int32 → Int32 → Int32 → Int32 → Int32 → Int32 → Sg → Ro) → Int32 → Int32 → Int32 → Int32 → Int32 → Int32 → Int32 → Int32 → Sg → Ro) : Nat → Int32 → Int32 → Int32 → Int32 → Int32 → Int32 → Int32 → Int32 → Sg → Ro
  | 0, _, _, _, _, _, _, _, _, _ => none
  | n + 1, x1, x2, x3, x4, x5, x6, x7, x8, s => F (itr8 F n) x1 x2 x3 x4 x5 x6 x7 x8 s
section GR
variable {q : MI} {X : Option (Nat × (Nat → Int32))} {pc pc' : Nat} {ρ : List (Option AV)} {st : List AV} {s : Sg} {R : List AC} {cu su : Nat} {o o1 o2 : Ro}
theorem G.ite {c : Prop} [Decidable c] (k1 : c → Gd q X pc ρ st s R cu su o1) (k2 : ¬ c → Gd q X pc ρ st s R cu su o2) : Gd q X pc ρ st s R cu su (if c then o1 else o2) := fun out e => by
  by_cases g : c
  · rw [if_pos g] at e
    exact k1 g out e
  · rw [if_neg g] at e
    exact k2 g out e
theorem G.no : Gd q X pc ρ st s R cu su none := fun out e => by cases e
theorem G.grd {c : Prop} [Decidable c] (k1 : c → Gd q X pc ρ st s R cu su o) : Gd q X pc ρ st s R cu su (if c then o else none) := G.ite k1 (fun _ => G.no)
theorem G.eqo (e0 : o1 = o2) (k : Gd q X pc ρ st s R cu su o2) : Gd q X pc ρ st s R cu su o1 := e0 ▸ k
theorem G.eqv {v w : AV} (e0 : v = w) (k : Gd q X pc ρ (w :: st) s R cu su o) : Gd q X pc ρ (v :: st) s R cu su o := e0 ▸ k
theorem G.mask (bs : List Bool) {ρ' : List (Option AV)} (hρ : lmask bs ρ = ρ') (k : Gd q X pc ρ' st s R cu su o) : Gd q X pc ρ st s R cu su o := fun out e => Ev.mask bs hρ (k out e)
theorem G.widen {cu' su' : Nat} (h1 : cu ≤ cu') (h2 : su ≤ su') (k : Gd q X pc ρ st s R cu' su' o) : Gd q X pc ρ st s R cu su o := fun out e => Ev.widen h1 h2 (k out e)
theorem G.loop1 {F : (Int32 → Sg → Ro) → Int32 → Sg → Ro} {rf : Int32 → List (Option AV)} (hb : ∀ rec : Int32 → Sg → Ro, (∀ (x1 : Int32) (s : Sg), Gd q X pc (rf x1) st s R cu su (rec x1 s)) → ∀ (x1 : Int32) (s : Sg), Gd q X pc (rf x1) st s R cu su (F rec x1 s)) : ∀ (n : Nat) (x1 : Int32) (s : Sg), Gd q X pc (rf x1) st s R cu su (itr1 F n x1 s) := by
  intro n
  induction n with
  | zero => intro x1 s out e; cases e
  | succ n ih => exact hb _ ih
theorem G.loop2 {F : (Int32 → Int32 → Sg → Ro) → Int32 → Int32 → Sg → Ro} {rf : Int32 → Int32 → List (Option AV)} (hb : ∀ rec : Int32 → Int32 → Sg → Ro, (∀ (x1 x2 : Int32) (s : Sg), Gd q X pc (rf x1 x2) st s R cu su (rec x1 x2 s)) → ∀ (x1 x2 : Int32) (s : Sg), Gd q X pc (rf x1 x2) st s R cu su (F rec x1 x2 s)) : ∀ (n : Nat) (x1 x2 : Int32) (s : Sg), Gd q X pc (rf x1 x2) st s R cu su (itr2 F n x1 x2 s) := by
  intro n
  induction n with
  | zero => intro x1 x2 s out e; cases e
  | succ n ih => exact hb _ ih
theorem G.loop3 {F : (Int32 → Int32 → Int32 → Sg → Ro) → Int32 → Int32 → Int32 → Sg → Ro} {rf : Int32 → Int32 → Int32 → List (Option AV)} (hb : ∀ rec : Int32 → Int32 → Int32 → Sg → Ro, (∀ (x1 x2 x3 : Int32) (s : Sg), Gd q X pc (rf x1 x2 x3) st s R cu su (rec x1 x2 x3 s)) → ∀ (x1 x2 x3 : Int32) (s : Sg), Gd q X pc (rf x1 x2 x3) st s R cu su (F rec x1 x2 x3 s)) : ∀ (n : Nat) (x1 x2 x3 : Int32) (s : Sg), Gd q X pc (rf x1 x2 x3) st s R cu su (itr3 F n x1 x2 x3 s) := by
  intro n
  induction n with
  | zero => intro x1 x2 x3 s out e; cases e
  | succ n ih => exact hb _ ih
theorem G.loop4 {F : (Int32 → Int32 → Int32 → Int32 → Sg → Ro) → Int32 → Int32 → Int32 → Int32 → Sg → Ro} {rf : Int32 → Int32 → Int32 → Int32 → List (Option AV)} (hb : ∀ rec : Int32 → Int32 → Int32 → Int32 → Sg → Ro, (∀ (x1 x2 x3 x4 : Int32) (s : Sg), Gd q X pc (rf x1 x2 x3 x4) st s R cu su (rec x1 x2 x3 x4 s)) → ∀ (x1 x2 x3 x4 : Int32) (s : Sg), Gd q X pc (rf x1 x2 x3 x4) st s R cu su (F rec x1 x2 x3 x4 s)) : ∀ (n : Nat) (x1 x2 x3 x4 : Int32) (s : Sg), Gd q X pc (rf x1 x2 x3 x4) st s R cu su (itr4 F n x1 x2 x3 x4 s) := by
  intro n
  induction n with
  | zero => intro x1 x2 x3 x4 s out e; cases e
  | succ n ih => exact hb _ ih
theorem G.loop5 {F : (Int32 → Int32 → Int32 → Int32 → Int32 → Sg → Ro) → Int32 → Int32 → Int32 → Int32 → Int32 → Sg → Ro} {rf : Int32 → Int32 → Int32 → Int32 → Int32 → List (Option AV)} (hb : ∀ rec : Int32 → Int32 → Int32 → Int32 → Int32 → Sg → Ro, (∀ (x1 x2 x3 x4 x5 : Int32) (s : Sg), Gd q X pc (rf x1 x2 x3 x4 x5) st s R cu su (rec x1 x2 x3 x4 x5 s)) → ∀ (x1 x2 x3 x4 x5 : Int32) (s : Sg), Gd q X pc (rf x1 x2 x3 x4 x5) st s R cu su (F rec x1 x2 x3 x4 x5 s)) : ∀ (n : Nat) (x1 x2 x3 x4 x5 : Int32) (s : Sg), Gd q X pc (rf x1 x2 x3 x4 x5) st s R cu su (itr5 F n x1 x2 x3 x4 x5 s) := by
  intro n
  induction n with
  | zero => intro x1 x2 x3 x4 x5 s out e; cases e
  | succ n ih => exact hb _ ih
theorem G.loop6 {F : (Int32 → Int32 → Int32 → Int32 → Int32 → Int32 → Sg → Ro) → Int32 → Int32 → Int32 → Int32 → Int32 → Int32 → Sg → Ro} {rf : Int32 → Int32 → Int32 → Int32 → Int32 → Int32 → List (Option AV)} (hb : ∀ rec : Int32 → Int32 → Int32 → Int32 → Int32 → Int32 → Sg → Ro, (∀ (x1 x2 x3 x4 x5 x6 : Int32) (s : Sg), Gd q X pc (rf x1 x2 x3 x4 x5 x6) st s R cu su (rec x1 x2 x3 x4 x5 x6 s)) → ∀ (x1 x2 x3 x4 x5 x6 : Int32) (s : Sg), Gd q X pc (rf x1 x2 x3 x4 x5 x6) st s R cu su (F rec x1 x2 x3 x4 x5 x6 s)) : ∀ (n : Nat) (x1 x2 x3 x4 x5 x6 : Int32) (s : Sg), Gd q X pc (rf x1 x2 x3 x4 x5 x6) st s R cu su (itr6 F n x1 x2 x3 x4 x5 x6 s) := by
  intro n
  induction n with
  | zero => intro x1 x2 x3 x4 x5 x6 s out e; cases e
  | succ n ih => exact hb _ ih
theorem G.loop7 {F : (Int32 → Int32 → Int32 → Int32 → Int32 → Int32 → Int32 → Sg → Ro) → Int32 → Int32 → Int32 → Int32 → Int32 → Int32 → Int32 → Sg → Ro} {rf : Int32 → Int32 → Int32 → Int32 → Int32 → Int32 → Int32 → List (Option AV)} (hb : ∀ rec : Int32 → Int32 → Int32 → Int32 → Int32 → Int32 → Int32 → Sg → Ro, (∀ (x1 x2 x3 x4 x5 x6 x7 : Int32) (s : Sg), Gd q X pc (rf x1 x2 x3 x4 x5 x6 x7) st s R cu su (rec x1 x2 x3 x4 x5 x6 x7 s)) → ∀ (x1 x2 x3 x4 x5 x6 x7 : Int32) (s : Sg), Gd q X pc (rf x1 x2 x3 x4 x5 x6 x7) st s R cu su (F rec x1 x2 x3 x4 x5 x6 x7 s)) : ∀ (n : Nat) (x1 x2 x3 x4 x5 x6 x7 : Int32) (s : Sg), Gd q X pc (rf x1 x2 x3 x4 x5 x6 x7) st s R cu su (itr7 F n x1 x2 x3 x4 x5 x6 x7 s) := by
  intro n
  induction n with
  | zero => intro x1 x2 x3 x4 x5 x6 x7 s out e; cases e
  | succ n ih => exact hb _ ih
theorem G.loop8 {F : (Int32 → Int32 → Int32 → Int32 → Int32 → Int32 → Int32 → Int32 → Sg → Ro) → Int32 → Int32 → Int32 → Int32 → Int32 → Int32 → Int32 → Int32 → Sg → Ro} {rf : Int32 → Int32 → Int32 → Int32 → Int32 → Int32 → Int32 → Int32 → List (Option AV)} (hb : ∀ rec : Int32 → Int32 → Int32 → Int32 → Int32 → Int32 → Int32 → Int32 → Sg → Ro, (∀ (x1 x2 x3 x4 x5 x6 x7 x8 : Int32) (s : Sg), Gd q X pc (rf x1 x2 x3 x4 x5 x6 x7 x8) st s R cu su (rec x1 x2 x3 x4 x5 x6 x7 x8 s)) → ∀ (x1 x2 x3 x4 x5 x6 x7 x8 : Int32) (s : Sg), Gd q X pc (rf x1 x2 x3 x4 x5 x6 x7 x8) st s R cu su (F rec x1 x2 x3 x4 x5 x6 x7 x8 s)) : ∀ (n : Nat) (x1 x2 x3 x4 x5 x6 x7 x8 : Int32) (s : Sg), Gd q X pc (rf x1 x2 x3 x4 x5 x6 x7 x8) st s R cu su (itr8 F n x1 x2 x3 x4 x5 x6 x7 x8 s) := by
  intro n
  induction n with
  | zero => intro x1 x2 x3 x4 x5 x6 x7 x8 s out e; cases e
  | succ n ih => exact hb _ ih
theorem G.iadd {x y : Int32} (hd : decode (mb q) pc = .ok (.iadd, 1)) (hp : pc + 1 = pc') (k : Gd q X pc' ρ (vi (x + y) :: st) s R cu su o) : Gd q X pc ρ (vi y :: vi x :: st) s R cu su o := fun out e => by subst hp; exact Ev.iadd hd (k out e)
theorem G.isub {x y : Int32} (hd : decode (mb q) pc = .ok (.isub, 1)) (hp : pc + 1 = pc') (k : Gd q X pc' ρ (vi (x - y) :: st) s R cu su o) : Gd q X pc ρ (vi y :: vi x :: st) s R cu su o := fun out e => by subst hp; exact Ev.isub hd (k out e)
theorem G.imul {x y : Int32} (hd : decode (mb q) pc = .ok (.imul, 1)) (hp : pc + 1 = pc') (k : Gd q X pc' ρ (vi (x * y) :: st) s R cu su o) : Gd q X pc ρ (vi y :: vi x :: st) s R cu su o := fun out e => by subst hp; exact Ev.imul hd (k out e)
theorem G.iand {x y : Int32} (hd : decode (mb q) pc = .ok (.iand, 1)) (hp : pc + 1 = pc') (k : Gd q X pc' ρ (vi (x &&& y) :: st) s R cu su o) : Gd q X pc ρ (vi y :: vi x :: st) s R cu su o := fun out e => by subst hp; exact Ev.iand hd (k out e)
theorem G.ior {x y : Int32} (hd : decode (mb q) pc = .ok (.ior, 1)) (hp : pc + 1 = pc') (k : Gd q X pc' ρ (vi (x ||| y) :: st) s R cu su o) : Gd q X pc ρ (vi y :: vi x :: st) s R cu su o := fun out e => by subst hp; exact Ev.ior hd (k out e)
theorem G.ixor {x y : Int32} (hd : decode (mb q) pc = .ok (.ixor, 1)) (hp : pc + 1 = pc') (k : Gd q X pc' ρ (vi (x ^^^ y) :: st) s R cu su o) : Gd q X pc ρ (vi y :: vi x :: st) s R cu su o := fun out e => by subst hp; exact Ev.ixor hd (k out e)
theorem G.ishl {x y : Int32} (hd : decode (mb q) pc = .ok (.ishl, 1)) (hp : pc + 1 = pc') (k : Gd q X pc' ρ (vi (x <<< (y &&& 31)) :: st) s R cu su o) : Gd q X pc ρ (vi y :: vi x :: st) s R cu su o := fun out e => by subst hp; exact Ev.ishl hd (k out e)
theorem G.ishr {x y : Int32} (hd : decode (mb q) pc = .ok (.ishr, 1)) (hp : pc + 1 = pc') (k : Gd q X pc' ρ (vi (x >>> (y &&& 31)) :: st) s R cu su o) : Gd q X pc ρ (vi y :: vi x :: st) s R cu su o := fun out e => by subst hp; exact Ev.ishr hd (k out e)
theorem G.ineg {x : Int32} (hd : decode (mb q) pc = .ok (.ineg, 1)) (hp : pc + 1 = pc') (k : Gd q X pc' ρ (vi (-x) :: st) s R cu su o) : Gd q X pc ρ (vi x :: st) s R cu su o := fun out e => by subst hp; exact Ev.ineg hd (k out e)
theorem G.idiv {x y : Int32} (hd : decode (mb q) pc = .ok (.idiv, 1)) (hp : pc + 1 = pc') (k : Gd q X pc' ρ (vi (x / y) :: st) s R cu su o) : Gd q X pc ρ (vi y :: vi x :: st) s R cu su (if y = 0 then none else o) := G.ite (fun _ => G.no) (fun hne out e => by subst hp; exact Ev.idiv hd hne (k out e))
theorem G.idivK {x y : Int32} (hne : ¬ y = 0) (hd : decode (mb q) pc = .ok (.idiv, 1)) (hp : pc + 1 = pc') (k : Gd q X pc' ρ (vi (x / y) :: st) s R cu su o) : Gd q X pc ρ (vi y :: vi x :: st) s R cu su o := fun out e => by subst hp; exact Ev.idiv hd hne (k out e)
theorem G.irem {x y : Int32} (hd : decode (mb q) pc = .ok (.irem, 1)) (hp : pc + 1 = pc') (k : Gd q X pc' ρ (vi (x - x / y * y) :: st) s R cu su o) : Gd q X pc ρ (vi y :: vi x :: st) s R cu su (if y = 0 then none else o) := G.ite (fun _ => G.no) (fun hne out e => by subst hp; exact Ev.irem hd hne (k out e))
theorem G.iremK {x y : Int32} (hne : ¬ y = 0) (hd : decode (mb q) pc = .ok (.irem, 1)) (hp : pc + 1 = pc') (k : Gd q X pc' ρ (vi (x - x / y * y) :: st) s R cu su o) : Gd q X pc ρ (vi y :: vi x :: st) s R cu su o := fun out e => by subst hp; exact Ev.irem hd hne (k out e)
theorem G.iushr {x y v : Int32} (hd : decode (mb q) pc = .ok (.iushr, 1)) (hp : pc + 1 = pc') (hv : (x.toUInt32 >>> (y.toUInt32 &&& Int32.toUInt32 31)).toInt32 = v) (k : Gd q X pc' ρ (vi v :: st) s R cu su o) : Gd q X pc ρ (vi y :: vi x :: st) s R cu su o := fun out e => by subst hp; exact Ev.iushr hd hv (k out e)
theorem G.iconst {n : Int} {v : Int32} (hd : decode (mb q) pc = .ok (.iconst n, 1)) (hp : pc + 1 = pc') (hv : Int32.ofInt n = v) (k : Gd q X pc' ρ (vi v :: st) s R cu su o) : Gd q X pc ρ (st) s R cu su o := fun out e => by subst hp; exact Ev.iconst hd hv (k out e)
theorem G.bipush {n : Int} {v : Int32} (hd : decode (mb q) pc = .ok (.bipush n, 2)) (hp : pc + 2 = pc') (hv : (Int8.ofInt n).toInt32 = v) (k : Gd q X pc' ρ (vi v :: st) s R cu su o) : Gd q X pc ρ (st) s R cu su o := fun out e => by subst hp; exact Ev.bipush hd hv (k out e)
theorem G.sipush {n : Int} {v : Int32} (hd : decode (mb q) pc = .ok (.sipush n, 3)) (hp : pc + 3 = pc') (hv : (Int16.ofInt n).toInt32 = v) (k : Gd q X pc' ρ (vi v :: st) s R cu su o) : Gd q X pc ρ (st) s R cu su o := fun out e => by subst hp; exact Ev.sipush hd hv (k out e)
theorem G.ldc {n : Nat} {v : Int32} (hd : decode (mb q) pc = .ok (.ldc n, 2)) (hp : pc + 2 = pc') (hv : Cond.constant (my q).cls n v ∈ Wt) (k : Gd q X pc' ρ (vi v :: st) s R cu su o) : Gd q X pc ρ (st) s R cu su o := fun out e => by subst hp; exact Ev.ldc hd hv (k out e)
theorem G.iload_n {k4 : Fin 4} {x : Int32} (hd : decode (mb q) pc = .ok (.iload_n k4, 1)) (hp : pc + 1 = pc') (hl : ρ[(k4 : Nat)]? = some (some (vi x))) (k : Gd q X pc' ρ (vi x :: st) s R cu su o) : Gd q X pc ρ (st) s R cu su o := fun out e => by subst hp; exact Ev.iload_n hd hl (k out e)
theorem G.iload {i : Nat} {x : Int32} (hd : decode (mb q) pc = .ok (.iload i, 2)) (hp : pc + 2 = pc') (hl : ρ[i]? = some (some (vi x))) (k : Gd q X pc' ρ (vi x :: st) s R cu su o) : Gd q X pc ρ (st) s R cu su o := fun out e => by subst hp; exact Ev.iload hd hl (k out e)
theorem G.aload_n {k4 : Fin 4} {x : Nat} (hd : decode (mb q) pc = .ok (.aload_n k4, 1)) (hp : pc + 1 = pc') (hl : ρ[(k4 : Nat)]? = some (some (vr x))) (k : Gd q X pc' ρ (vr x :: st) s R cu su o) : Gd q X pc ρ (st) s R cu su o := fun out e => by subst hp; exact Ev.aload_n hd hl (k out e)
theorem G.aload {i : Nat} {x : Nat} (hd : decode (mb q) pc = .ok (.aload i, 2)) (hp : pc + 2 = pc') (hl : ρ[i]? = some (some (vr x))) (k : Gd q X pc' ρ (vr x :: st) s R cu su o) : Gd q X pc ρ (st) s R cu su o := fun out e => by subst hp; exact Ev.aload hd hl (k out e)
theorem G.aloadS_n {k4 : Fin 4} (hd : decode (mb q) pc = .ok (.aload_n k4, 1)) (hp : pc + 1 = pc') (hl : ρ[(k4 : Nat)]? = some (some vs)) (k : Gd q X pc' ρ (vs :: st) s R cu su o) : Gd q X pc ρ (st) s R cu su o := fun out e => by subst hp; exact Ev.aloadS_n hd hl (k out e)
theorem G.istore_n {k4 : Fin 4} {x : Int32} {ρ' : List (Option AV)} (hd : decode (mb q) pc = .ok (.istore_n k4, 1)) (hp : pc + 1 = pc') (hl : (k4 : Nat) < ml q) (hρ : ρ.set (k4 : Nat) (some (vi x)) = ρ') (k : Gd q X pc' ρ' st s R cu su o) : Gd q X pc ρ (vi x :: st) s R cu su o := fun out e => by subst hp; exact Ev.istore_n hd hl hρ (k out e)
theorem G.istore {i : Nat} {x : Int32} {ρ' : List (Option AV)} (hd : decode (mb q) pc = .ok (.istore i, 2)) (hp : pc + 2 = pc') (hl : i < ml q) (hρ : ρ.set i (some (vi x)) = ρ') (k : Gd q X pc' ρ' st s R cu su o) : Gd q X pc ρ (vi x :: st) s R cu su o := fun out e => by subst hp; exact Ev.istore hd hl hρ (k out e)
theorem G.astore_n {k4 : Fin 4} {x : Nat} {ρ' : List (Option AV)} (hd : decode (mb q) pc = .ok (.astore_n k4, 1)) (hp : pc + 1 = pc') (hl : (k4 : Nat) < ml q) (hρ : ρ.set (k4 : Nat) (some (vr x)) = ρ') (k : Gd q X pc' ρ' st s R cu su o) : Gd q X pc ρ (vr x :: st) s R cu su o := fun out e => by subst hp; exact Ev.astore_n hd hl hρ (k out e)
theorem G.astore {i : Nat} {x : Nat} {ρ' : List (Option AV)} (hd : decode (mb q) pc = .ok (.astore i, 2)) (hp : pc + 2 = pc') (hl : i < ml q) (hρ : ρ.set i (some (vr x)) = ρ') (k : Gd q X pc' ρ' st s R cu su o) : Gd q X pc ρ (vr x :: st) s R cu su o := fun out e => by subst hp; exact Ev.astore hd hl hρ (k out e)
theorem G.iinc {i : Nat} {n : Int} {x w v : Int32} {ρ' : List (Option AV)} (hd : decode (mb q) pc = .ok (.iinc i n, 3)) (hp : pc + 3 = pc') (hx : ρ[i]? = some (some (vi x))) (hl : i < ml q) (hw : Int32.ofInt n = w) (hv : x + w = v) (hρ : ρ.set i (some (vi v)) = ρ') (k : Gd q X pc' ρ' st s R cu su o) : Gd q X pc ρ st s R cu su o := fun out e => by subst hp; exact Ev.iinc hd hx hl (by rw [hw]; exact hv) hρ (k out e)
theorem G.dup {v : AV} (hd : decode (mb q) pc = .ok (.dup, 1)) (hp : pc + 1 = pc') (k : Gd q X pc' ρ (v :: v :: st) s R cu su o) : Gd q X pc ρ (v :: st) s R cu su o := fun out e => by subst hp; exact Ev.dup hd (k out e)
theorem G.pop {v : AV} (hd : decode (mb q) pc = .ok (.pop, 1)) (hp : pc + 1 = pc') (k : Gd q X pc' ρ (st) s R cu su o) : Gd q X pc ρ (v :: st) s R cu su o := fun out e => by subst hp; exact Ev.pop hd (k out e)
theorem G.dup_x1 {v w : AV} (hd : decode (mb q) pc = .ok (.dup_x1, 1)) (hp : pc + 1 = pc') (k : Gd q X pc' ρ (v :: w :: v :: st) s R cu su o) : Gd q X pc ρ (v :: w :: st) s R cu su o := fun out e => by subst hp; exact Ev.dup_x1 hd (k out e)
theorem G.dup_x2 {v w u : AV} (hd : decode (mb q) pc = .ok (.dup_x2, 1)) (hp : pc + 1 = pc') (k : Gd q X pc' ρ (v :: w :: u :: v :: st) s R cu su o) : Gd q X pc ρ (v :: w :: u :: st) s R cu su o := fun out e => by subst hp; exact Ev.dup_x2 hd (k out e)
theorem G.dup2 {v w : AV} (hd : decode (mb q) pc = .ok (.dup2, 1)) (hp : pc + 1 = pc') (k : Gd q X pc' ρ (v :: w :: v :: w :: st) s R cu su o) : Gd q X pc ρ (v :: w :: st) s R cu su o := fun out e => by subst hp; exact Ev.dup2 hd (k out e)
theorem G.null (hd : decode (mb q) pc = .ok (.aconst_null, 1)) (hp : pc + 1 = pc') (k : Gd q X pc' ρ (vn :: st) s R cu su o) : Gd q X pc ρ (st) s R cu su o := fun out e => by subst hp; exact Ev.null hd (k out e)
theorem G.if_eq {x : Int32} {off : Int} {tgt : Nat} (hd : decode (mb q) pc = .ok (.ifCond .eq off, 3)) (hp : pc + 3 = pc') (ht : (pc : Int) + off = (tgt : Int)) (k1 : Gd q X tgt ρ st s R cu su o1) (k2 : Gd q X pc' ρ st s R cu su o2) : Gd q X pc ρ (vi x :: st) s R cu su (if x = 0 then o1 else o2) := G.ite (fun g out e => by subst hp; exact Ev.if_eq hd ht (fun _ => k1 out e) (fun z => absurd g z)) (fun g out e => by subst hp; exact Ev.if_eq hd ht (fun z => absurd z g) (fun _ => k2 out e))
theorem G.if_ne {x : Int32} {off : Int} {tgt : Nat} (hd : decode (mb q) pc = .ok (.ifCond .ne off, 3)) (hp : pc + 3 = pc') (ht : (pc : Int) + off = (tgt : Int)) (k2 : Gd q X pc' ρ st s R cu su o2) (k1 : Gd q X tgt ρ st s R cu su o1) : Gd q X pc ρ (vi x :: st) s R cu su (if x = 0 then o2 else o1) := G.ite (fun g out e => by subst hp; exact Ev.if_ne hd ht (fun z => absurd g z) (fun _ => k2 out e)) (fun g out e => by subst hp; exact Ev.if_ne hd ht (fun _ => k1 out e) (fun z => absurd z g))
theorem G.if_lt {x : Int32} {off : Int} {tgt : Nat} (hd : decode (mb q) pc = .ok (.ifCond .lt off, 3)) (hp : pc + 3 = pc') (ht : (pc : Int) + off = (tgt : Int)) (k1 : Gd q X tgt ρ st s R cu su o1) (k2 : Gd q X pc' ρ st s R cu su o2) : Gd q X pc ρ (vi x :: st) s R cu su (if x < 0 then o1 else o2) := G.ite (fun g out e => by subst hp; exact Ev.if_lt hd ht (fun _ => k1 out e) (fun z => absurd g z)) (fun g out e => by subst hp; exact Ev.if_lt hd ht (fun z => absurd z g) (fun _ => k2 out e))
theorem G.if_ge {x : Int32} {off : Int} {tgt : Nat} (hd : decode (mb q) pc = .ok (.ifCond .ge off, 3)) (hp : pc + 3 = pc') (ht : (pc : Int) + off = (tgt : Int)) (k1 : Gd q X tgt ρ st s R cu su o1) (k2 : Gd q X pc' ρ st s R cu su o2) : Gd q X pc ρ (vi x :: st) s R cu su (if 0 ≤ x then o1 else o2) := G.ite (fun g out e => by subst hp; exact Ev.if_ge hd ht (fun _ => k1 out e) (fun z => absurd g z)) (fun g out e => by subst hp; exact Ev.if_ge hd ht (fun z => absurd z g) (fun _ => k2 out e))
theorem G.if_gt {x : Int32} {off : Int} {tgt : Nat} (hd : decode (mb q) pc = .ok (.ifCond .gt off, 3)) (hp : pc + 3 = pc') (ht : (pc : Int) + off = (tgt : Int)) (k1 : Gd q X tgt ρ st s R cu su o1) (k2 : Gd q X pc' ρ st s R cu su o2) : Gd q X pc ρ (vi x :: st) s R cu su (if 0 < x then o1 else o2) := G.ite (fun g out e => by subst hp; exact Ev.if_gt hd ht (fun _ => k1 out e) (fun z => absurd g z)) (fun g out e => by subst hp; exact Ev.if_gt hd ht (fun z => absurd z g) (fun _ => k2 out e))
theorem G.if_le {x : Int32} {off : Int} {tgt : Nat} (hd : decode (mb q) pc = .ok (.ifCond .le off, 3)) (hp : pc + 3 = pc') (ht : (pc : Int) + off = (tgt : Int)) (k1 : Gd q X tgt ρ st s R cu su o1) (k2 : Gd q X pc' ρ st s R cu su o2) : Gd q X pc ρ (vi x :: st) s R cu su (if x ≤ 0 then o1 else o2) := G.ite (fun g out e => by subst hp; exact Ev.if_le hd ht (fun _ => k1 out e) (fun z => absurd g z)) (fun g out e => by subst hp; exact Ev.if_le hd ht (fun z => absurd z g) (fun _ => k2 out e))
theorem G.icmp_eq {x y : Int32} {off : Int} {tgt : Nat} (hd : decode (mb q) pc = .ok (.if_icmp .eq off, 3)) (hp : pc + 3 = pc') (ht : (pc : Int) + off = (tgt : Int)) (k1 : Gd q X tgt ρ st s R cu su o1) (k2 : Gd q X pc' ρ st s R cu su o2) : Gd q X pc ρ (vi y :: vi x :: st) s R cu su (if x = y then o1 else o2) := G.ite (fun g out e => by subst hp; exact Ev.icmp_eq hd ht (fun _ => k1 out e) (fun z => absurd g z)) (fun g out e => by subst hp; exact Ev.icmp_eq hd ht (fun z => absurd z g) (fun _ => k2 out e))
theorem G.icmp_ne {x y : Int32} {off : Int} {tgt : Nat} (hd : decode (mb q) pc = .ok (.if_icmp .ne off, 3)) (hp : pc + 3 = pc') (ht : (pc : Int) + off = (tgt : Int)) (k2 : Gd q X pc' ρ st s R cu su o2) (k1 : Gd q X tgt ρ st s R cu su o1) : Gd q X pc ρ (vi y :: vi x :: st) s R cu su (if x = y then o2 else o1) := G.ite (fun g out e => by subst hp; exact Ev.icmp_ne hd ht (fun z => absurd g z) (fun _ => k2 out e)) (fun g out e => by subst hp; exact Ev.icmp_ne hd ht (fun _ => k1 out e) (fun z => absurd z g))
theorem G.icmp_lt {x y : Int32} {off : Int} {tgt : Nat} (hd : decode (mb q) pc = .ok (.if_icmp .lt off, 3)) (hp : pc + 3 = pc') (ht : (pc : Int) + off = (tgt : Int)) (k1 : Gd q X tgt ρ st s R cu su o1) (k2 : Gd q X pc' ρ st s R cu su o2) : Gd q X pc ρ (vi y :: vi x :: st) s R cu su (if x < y then o1 else o2) := G.ite (fun g out e => by subst hp; exact Ev.icmp_lt hd ht (fun _ => k1 out e) (fun z => absurd g z)) (fun g out e => by subst hp; exact Ev.icmp_lt hd ht (fun z => absurd z g) (fun _ => k2 out e))
theorem G.icmp_ge {x y : Int32} {off : Int} {tgt : Nat} (hd : decode (mb q) pc = .ok (.if_icmp .ge off, 3)) (hp : pc + 3 = pc') (ht : (pc : Int) + off = (tgt : Int)) (k1 : Gd q X tgt ρ st s R cu su o1) (k2 : Gd q X pc' ρ st s R cu su o2) : Gd q X pc ρ (vi y :: vi x :: st) s R cu su (if y ≤ x then o1 else o2) := G.ite (fun g out e => by subst hp; exact Ev.icmp_ge hd ht (fun _ => k1 out e) (fun z => absurd g z)) (fun g out e => by subst hp; exact Ev.icmp_ge hd ht (fun z => absurd z g) (fun _ => k2 out e))
theorem G.icmp_gt {x y : Int32} {off : Int} {tgt : Nat} (hd : decode (mb q) pc = .ok (.if_icmp .gt off, 3)) (hp : pc + 3 = pc') (ht : (pc : Int) + off = (tgt : Int)) (k1 : Gd q X tgt ρ st s R cu su o1) (k2 : Gd q X pc' ρ st s R cu su o2) : Gd q X pc ρ (vi y :: vi x :: st) s R cu su (if y < x then o1 else o2) := G.ite (fun g out e => by subst hp; exact Ev.icmp_gt hd ht (fun _ => k1 out e) (fun z => absurd g z)) (fun g out e => by subst hp; exact Ev.icmp_gt hd ht (fun z => absurd z g) (fun _ => k2 out e))
theorem G.icmp_le {x y : Int32} {off : Int} {tgt : Nat} (hd : decode (mb q) pc = .ok (.if_icmp .le off, 3)) (hp : pc + 3 = pc') (ht : (pc : Int) + off = (tgt : Int)) (k1 : Gd q X tgt ρ st s R cu su o1) (k2 : Gd q X pc' ρ st s R cu su o2) : Gd q X pc ρ (vi y :: vi x :: st) s R cu su (if x ≤ y then o1 else o2) := G.ite (fun g out e => by subst hp; exact Ev.icmp_le hd ht (fun _ => k1 out e) (fun z => absurd g z)) (fun g out e => by subst hp; exact Ev.icmp_le hd ht (fun z => absurd z g) (fun _ => k2 out e))
theorem G.goto {off : Int} {tgt : Nat} (hd : decode (mb q) pc = .ok (.goto off, 3)) (ht : (pc : Int) + off = (tgt : Int)) (k : Gd q X tgt ρ st s R cu su o) : Gd q X pc ρ st s R cu su o := fun out e => Ev.goto hd ht (k out e)
/-- a switch by cases of its number -/
theorem G.tabIn {dflt lo hi : Int} {offs : Array Int} {len : Nat} {x c : Int32} {off : Int} {tgt : Nat} (hd : decode (mb q) pc = .ok (.tableswitch dflt lo hi offs, len)) (e0 : x = c) (h1 : ¬ c.toInt < lo ∧ ¬ hi < c.toInt) (ho : offs[(c.toInt - lo).toNat]? = some off) (ht : (pc : Int) + off = (tgt : Int)) (k : Gd q X tgt ρ st s R cu su o) : Gd q X pc ρ (vi x :: st) s R cu su o := fun out e => by subst e0; exact Ev.tableIn hd h1.1 h1.2 ho ht (k out e)
theorem G.tabOut {dflt lo hi : Int} {offs : Array Int} {len : Nat} {x : Int32} {tgt : Nat} (hd : decode (mb q) pc = .ok (.tableswitch dflt lo hi offs, len)) (hx : x.toInt < lo ∨ hi < x.toInt) (ht : (pc : Int) + dflt = (tgt : Int)) (k : Gd q X tgt ρ st s R cu su o) : Gd q X pc ρ (vi x :: st) s R cu su o := fun out e => Ev.tableOut hd hx ht (k out e)
theorem G.look {dflt : Int} {ps : Array (Int × Int)} {len : Nat} {x c : Int32} {off : Int} {tgt : Nat} (hd : decode (mb q) pc = .ok (.lookupswitch dflt ps, len)) (e0 : x = c) (hp : (ps.toList.zip (ps.toList.drop 1)).all (fun (a, next) => a.1 < next.1) = true) (ho : Op.lookupswitch.offset ps.toList dflt c.toInt = off) (ht : (pc : Int) + off = (tgt : Int)) (k : Gd q X tgt ρ st s R cu su o) : Gd q X pc ρ (vi x :: st) s R cu su o := fun out e => by subst e0; exact Ev.lookup hd hp ho ht (k out e)
theorem G.lookOut {dflt : Int} {ps : Array (Int × Int)} {len : Nat} {x : Int32} {tgt : Nat} (hd : decode (mb q) pc = .ok (.lookupswitch dflt ps, len)) (hp : (ps.toList.zip (ps.toList.drop 1)).all (fun (a, next) => a.1 < next.1) = true) (ho : Op.lookupswitch.offset ps.toList dflt x.toInt = dflt) (ht : (pc : Int) + dflt = (tgt : Int)) (k : Gd q X tgt ρ st s R cu su o) : Gd q X pc ρ (vi x :: st) s R cu su o := fun out e => Ev.lookup hd hp ho ht (k out e)
/-- x != 0 as a value -/
theorem G.bz {x : Int32} {o0 o3 : Int} {p1 p2 p3 p4 : Nat} (hd : decode (mb q) pc = .ok (.ifCond .eq o0, 3)) (hp : pc + 3 = p1) (ht : (pc : Int) + o0 = (p3 : Int)) (hd1 : decode (mb q) p1 = .ok (.iconst 1, 1)) (hp1 : p1 + 1 = p2) (hd2 : decode (mb q) p2 = .ok (.goto o3, 3)) (ht2 : (p2 : Int) + o3 = (p4 : Int)) (hd3 : decode (mb q) p3 = .ok (.iconst 0, 1)) (hp3 : p3 + 1 = p4) (k : Gd q X p4 ρ (vi (nz x) :: st) s R cu su o) : Gd q X pc ρ (vi x :: st) s R cu su o := fun out e => by
  subst hp; subst hp1; subst hp3
  refine Ev.if_eq hd ht (fun g => Ev.iconst hd3 (v := 0) (by decide) ?_) (fun g => Ev.iconst hd1 (v := 1) (by decide) (Ev.goto hd2 ht2 ?_))
  · have := k out e
    rwa [nz, if_pos g] at this
  · have := k out e
    rwa [nz, if_neg g] at this
/-- fields and arrays -/
theorem G.get {idx i ci kf : Nat} {fs : List AV} {v : AV} (hd : decode (mb q) pc = .ok (.getfield idx, 3)) (hp : pc + 3 = pc') (hf : FG (my q).cls idx ci kf) (ho : (HX s R)[i]? = some (ao ci fs)) (hv : fs[kf]? = some v) (k : Gd q X pc' ρ (v :: st) s R cu su o) : Gd q X pc ρ (vr i :: st) s R cu su o := fun out e => by subst hp; exact Ev.get hd hf ho hv (k out e)
theorem G.put {idx i ci kf : Nat} {ty : FieldType} {fs : List AV} {v : AV} {s' : Sg} (hd : decode (mb q) pc = .ok (.putfield idx, 3)) (hp : pc + 3 = pc') (hf : FPo (my q).cls idx ci kf ty) (hw : okt ty v) (ho : (HX s R)[i]? = some (ao ci fs)) (hl : decide (kf < fs.length) = true) (hh : (HX s R).set i (ao ci (fs.set kf v)) = HX s' R) (k : Gd q X pc' ρ st s' R cu su o) : Gd q X pc ρ (v :: vr i :: st) s R cu su o := fun out e => by subst hp; exact Ev.put hd hf hw ho (of_decide_eq_true hl) hh (k out e)
theorem G.iald {i n : Nat} {f : Nat → Int32} {x : Int32} (hd : decode (mb q) pc = .ok (.iaload, 1)) (hp : pc + 1 = pc') (ha : (HX s R)[i]? = some (ai .int n f)) (k : Gd q X pc' ρ (vi (f (ix x)) :: st) s R cu su o) : Gd q X pc ρ (vi x :: vr i :: st) s R cu su (if inb x n = true then o else none) := G.grd (fun g out e => by subst hp; exact Ev.iald hd ha (inb_in g) (k out e))
theorem G.zald {i n : Nat} {f : Nat → Int32} {x : Int32} (hd : decode (mb q) pc = .ok (.baload, 1)) (hp : pc + 1 = pc') (ha : (HX s R)[i]? = some (ai .boolean n f)) (k : Gd q X pc' ρ (vi (f (ix x)) :: st) s R cu su o) : Gd q X pc ρ (vi x :: vr i :: st) s R cu su (if inb x n = true then o else none) := G.grd (fun g out e => by subst hp; exact Ev.zald hd ha (inb_in g) (k out e))
theorem G.iast {i n : Nat} {f : Nat → Int32} {x y : Int32} {s' : Sg} (hd : decode (mb q) pc = .ok (.iastore, 1)) (hp : pc + 1 = pc') (ha : (HX s R)[i]? = some (ai .int n f)) (hh : (HX s R).set i (ai .int n (upd f (ix x) y)) = HX s' R) (k : Gd q X pc' ρ st s' R cu su o) : Gd q X pc ρ (vi y :: vi x :: vr i :: st) s R cu su (if inb x n = true then o else none) := G.grd (fun g out e => by subst hp; exact Ev.iast hd ha (inb_in g) hh (k out e))
theorem G.zast {i n : Nat} {f : Nat → Int32} {x y : Int32} {s' : Sg} (hd : decode (mb q) pc = .ok (.bastore, 1)) (hp : pc + 1 = pc') (ha : (HX s R)[i]? = some (ai .boolean n f)) (hh : (HX s R).set i (ai .boolean n (upd f (ix x) y)) = HX s' R) (k : Gd q X pc' ρ st s' R cu su o) : Gd q X pc ρ (vi y :: vi x :: vr i :: st) s R cu su (if inb x n = true then (if isb y = true then o else none) else none) := G.grd (fun g => G.grd (fun g2 out e => by subst hp; exact Ev.zast hd ha (inb_in g) (isb_nar g2) hh (k out e)))
theorem G.alen {i n : Nat} {ty : FieldType} {f : Nat → Int32} {v : Int32} (hd : decode (mb q) pc = .ok (.arraylength, 1)) (hp : pc + 1 = pc') (ha : (HX s R)[i]? = some (ai ty n f)) (hv : Int32.ofNat n = v) (k : Gd q X pc' ρ (vi v :: st) s R cu su o) : Gd q X pc ρ (vr i :: st) s R cu su o := fun out e => by subst hp; exact Ev.alen hd ha hv (k out e)
theorem G.sld {L0 : Nat} {xs : Nat → Int32} {x : Int32} (hd : decode (mb q) pc = .ok (.iaload, 1)) (hp : pc + 1 = pc') (k : Gd q (some (L0, xs)) pc' ρ (vi (xs (ix x)) :: st) s R cu su o) : Gd q (some (L0, xs)) pc ρ (vi x :: vs :: st) s R cu su (if inb x L0 = true then o else none) := G.grd (fun g out e => by subst hp; exact Ev.sld rfl hd (inb_in g) (k out e))
theorem G.slen {L0 : Nat} {xs : Nat → Int32} (hd : decode (mb q) pc = .ok (.arraylength, 1)) (hp : pc + 1 = pc') (k : Gd q (some (L0, xs)) pc' ρ (vi (Int32.ofNat L0) :: st) s R cu su o) : Gd q (some (L0, xs)) pc ρ (vs :: st) s R cu su o := fun out e => by subst hp; exact Ev.slen rfl hd (k out e)
/-- calls: the callee computes f -/
theorem HX_len2 (s s' : Sg) (R : List AC) : (HX s R).length = (HX s' R).length := rfl
theorem G.callVi {j : MI} {f : Ro} {kf : Int32 → Sg → Ro} {idx i ci n : Nat} {T0 : u_T} {N0 : Nat} {As stk fs : List AV} {ty : FieldType} (hj : Ct j (vr i :: As) s R f) (hd : decode (mb q) pc = .ok (.invokevirtual idx, 3)) (hp : pc + 3 = pc') (hl : LM (my q).cls idx (my j)) (hm : MK j n) (hv : MV j) (hz : (mR j).cells = 0 ∧ (mR j).slots = 0) (hR : Rle j q) (ho : (HX s R)[i]? = some (ao ci fs)) (hcl : vwCl[ci]? = some ((my j).cls, T0, N0))
    (hs : stk = As.reverse ++ vr i :: st) (hn : As.length = n) (hst : decide (st.length ≤ 8) = true) (hc : cu ≤ (mR q).cells ∧ su ≤ (mR q).slots) (hr : mr j = some ty) (k : ∀ (v : Int32) (s' : Sg), Gd q X pc' ρ (vi v :: st) s' R cu su (kf v s')) : Gd q X pc ρ stk s R cu su (bnd f kf) := by
  intro out e
  subst hp
  rcases hf : f with _ | ⟨v, s'⟩
  · rw [hf] at e; cases e
  · rw [hf] at e
    refine Ev.callV (hj (v, s') hf) hd hl hm hv hR ho hcl hs hn (of_decide_eq_true hst) (by rw [hz.1, hz.2]; exact hc) (fun r h' hr => Or.inl (by rw [hr.2]; exact HX_len2 _ _ _)) ?_
    intro r h' hr'
    have e1 : r = (mr j).map (fun _ => vi v) := hr'.1
    have e2 : h' = HX s' R := hr'.2
    rw [hr] at e1
    subst e1; subst e2
    rw [hz.1, hz.2]
    exact k v s' out e
theorem G.callVv {j : MI} {f : Ro} {kf : Int32 → Sg → Ro} {idx i ci n : Nat} {T0 : u_T} {N0 : Nat} {As stk fs : List AV} (hj : Ct j (vr i :: As) s R f) (hd : decode (mb q) pc = .ok (.invokevirtual idx, 3)) (hp : pc + 3 = pc') (hl : LM (my q).cls idx (my j)) (hm : MK j n) (hv : MV j) (hz : (mR j).cells = 0 ∧ (mR j).slots = 0) (hR : Rle j q) (ho : (HX s R)[i]? = some (ao ci fs)) (hcl : vwCl[ci]? = some ((my j).cls, T0, N0))
    (hs : stk = As.reverse ++ vr i :: st) (hn : As.length = n) (hst : decide (st.length ≤ 8) = true) (hc : cu ≤ (mR q).cells ∧ su ≤ (mR q).slots) (hr : mr j = none) (k : ∀ (v : Int32) (s' : Sg), Gd q X pc' ρ (st) s' R cu su (kf v s')) : Gd q X pc ρ stk s R cu su (bnd f kf) := by
  intro out e
  subst hp
  rcases hf : f with _ | ⟨v, s'⟩
  · rw [hf] at e; cases e
  · rw [hf] at e
    refine Ev.callV (hj (v, s') hf) hd hl hm hv hR ho hcl hs hn (of_decide_eq_true hst) (by rw [hz.1, hz.2]; exact hc) (fun r h' hr => Or.inl (by rw [hr.2]; exact HX_len2 _ _ _)) ?_
    intro r h' hr'
    have e1 : r = (mr j).map (fun _ => vi v) := hr'.1
    have e2 : h' = HX s' R := hr'.2
    rw [hr] at e1
    subst e1; subst e2
    rw [hz.1, hz.2]
    exact k v s' out e
theorem G.callSi {j : MI} {f : Ro} {kf : Int32 → Sg → Ro} {idx n : Nat} {As stk : List AV} {ty : FieldType} (hj : Ct j As s R f) (hd : decode (mb q) pc = .ok (.invokestatic idx, 3)) (hp : pc + 3 = pc') (hl : LM (my q).cls idx (my j)) (hm : MK j n) (hv : Cond.static (my j) ∈ Wt) (hz : (mR j).cells = 0 ∧ (mR j).slots = 0) (hR : Rle j q)
    (hs : stk = As.reverse ++ st) (hn : As.length = n) (hst : decide (st.length ≤ 8) = true) (hc : cu ≤ (mR q).cells ∧ su ≤ (mR q).slots) (hr : mr j = some ty) (k : ∀ (v : Int32) (s' : Sg), Gd q X pc' ρ (vi v :: st) s' R cu su (kf v s')) : Gd q X pc ρ stk s R cu su (bnd f kf) := by
  intro out e
  subst hp
  rcases hf : f with _ | ⟨v, s'⟩
  · rw [hf] at e; cases e
  · rw [hf] at e
    refine Ev.callS (hj (v, s') hf) hd hl hm hv hR hs hn (of_decide_eq_true hst) (by rw [hz.1, hz.2]; exact hc) (fun r h' hr => Or.inl (by rw [hr.2]; exact HX_len2 _ _ _)) ?_
    intro r h' hr'
    have e1 : r = (mr j).map (fun _ => vi v) := hr'.1
    have e2 : h' = HX s' R := hr'.2
    rw [hr] at e1
    subst e1; subst e2
    rw [hz.1, hz.2]
    exact k v s' out e
theorem G.callSv {j : MI} {f : Ro} {kf : Int32 → Sg → Ro} {idx n : Nat} {As stk : List AV} (hj : Ct j As s R f) (hd : decode (mb q) pc = .ok (.invokestatic idx, 3)) (hp : pc + 3 = pc') (hl : LM (my q).cls idx (my j)) (hm : MK j n) (hv : Cond.static (my j) ∈ Wt) (hz : (mR j).cells = 0 ∧ (mR j).slots = 0) (hR : Rle j q)
    (hs : stk = As.reverse ++ st) (hn : As.length = n) (hst : decide (st.length ≤ 8) = true) (hc : cu ≤ (mR q).cells ∧ su ≤ (mR q).slots) (hr : mr j = none) (k : ∀ (v : Int32) (s' : Sg), Gd q X pc' ρ (st) s' R cu su (kf v s')) : Gd q X pc ρ stk s R cu su (bnd f kf) := by
  intro out e
  subst hp
  rcases hf : f with _ | ⟨v, s'⟩
  · rw [hf] at e; cases e
  · rw [hf] at e
    refine Ev.callS (hj (v, s') hf) hd hl hm hv hR hs hn (of_decide_eq_true hst) (by rw [hz.1, hz.2]; exact hc) (fun r h' hr => Or.inl (by rw [hr.2]; exact HX_len2 _ _ _)) ?_
    intro r h' hr'
    have e1 : r = (mr j).map (fun _ => vi v) := hr'.1
    have e2 : h' = HX s' R := hr'.2
    rw [hr] at e1
    subst e1; subst e2
    rw [hz.1, hz.2]
    exact k v s' out e
/-- System.arraycopy -/
theorem G.acopy {idx i0 i1 n0 n1 : Nat} {f g : Nat → Int32} {sp dp n : Int32} {s' : Sg} (hd : decode (mb q) pc = .ok (.invokestatic idx, 3)) (hp : pc + 3 = pc') (hw1 : Cond.methodLink (my q).cls idx arraycopyName ∈ Wt) (hw2 : Cond.native arraycopyName ∈ Wt) (hw3 : Cond.static arraycopyName ∈ Wt) (hw4 : Cond.initialized "java/lang/System" ∈ Wt)
    (h0 : (HX s R)[i0]? = some (ai .int n0 f)) (h1 : (HX s R)[i1]? = some (ai .int n1 g)) (hfr : 1 ≤ (mR q).frames) (hlo : decide (st.length + (nativeFrameWords "java/lang/System" "arraycopy" 5 + 11) ≤ (mR q).locals) = true)
    (hh : (HX s R).set i1 (ai .int n1 (va_cpy f g (ix sp) (ix dp) (ix n))) = HX s' R) (k : Gd q X pc' ρ st s' R cu su o) : Gd q X pc ρ (vi n :: vi dp :: vr i1 :: vi sp :: vr i0 :: st) s R cu su (if (¬ sp < 0 ∧ ¬ dp < 0 ∧ ¬ n < 0) ∧ ix sp + ix n ≤ n0 ∧ ix dp + ix n ≤ n1 then o else none) := G.grd (fun g out e => by subst hp; exact Ev.acopy hd hw1 hw2 hw3 hw4 h0 h1 g.1.1 g.1.2.1 g.1.2.2 g.2.1 g.2.2 hfr (of_decide_eq_true hlo) hh (k out e))
/-- the end -/
theorem G.iret {x : Int32} (hd : decode (mb q) pc = .ok (.ireturn, 1)) (hn : mr q = some .int) (hc : cu ≤ (mR q).cells ∧ su ≤ (mR q).slots) : Gd q X pc ρ [vi x] s R cu su (some (x, s)) := fun out e => by
  cases e
  exact Ev.ireturn hd ⟨_, hn, rfl⟩ hc.1 hc.2 ⟨by rw [hn]; rfl, rfl⟩
theorem G.zret {x : Int32} (hd : decode (mb q) pc = .ok (.ireturn, 1)) (hn : mr q = some .boolean) (hc : cu ≤ (mR q).cells ∧ su ≤ (mR q).slots) : Gd q X pc ρ [vi x] s R cu su (if isb x = true then some (x, s) else none) := G.grd (fun g out e => by
  cases e
  exact Ev.ireturn hd ⟨_, hn, isb_narrow g⟩ hc.1 hc.2 ⟨by rw [hn]; rfl, rfl⟩)
theorem G.zretK {x : Int32} (g : isb x = true) (hd : decode (mb q) pc = .ok (.ireturn, 1)) (hn : mr q = some .boolean) (hc : cu ≤ (mR q).cells ∧ su ≤ (mR q).slots) : Gd q X pc ρ [vi x] s R cu su (some (x, s)) := fun out e => by
  cases e
  exact Ev.ireturn hd ⟨_, hn, isb_narrow g⟩ hc.1 hc.2 ⟨by rw [hn]; rfl, rfl⟩
theorem G.vret (hd : decode (mb q) pc = .ok (.return_, 1)) (hn : mr q = none) (hc : cu ≤ (mR q).cells ∧ su ≤ (mR q).slots) : Gd q X pc ρ [] s R cu su (some (0, s)) := fun out e => by
  cases e
  exact Ev.vreturn hd hn hc.1 hc.2 ⟨by rw [hn]; rfl, rfl⟩
end GR
end
section
theorem wti {w : Cond} (i : Nat) (h : tables_1[i]? = some w) (g : goodWord w = true) : w ∈ Wt := List.mem_filter.mpr ⟨List.mem_append_right _ (List.mem_of_getElem? h), g⟩
theorem wt1 {w : Cond} (i : Nat) (h : tables_1_1[i]? = some w) (g : goodWord w = true) : w ∈ Wt := List.mem_filter.mpr ⟨List.mem_append_right _ (List.mem_append_left _ (List.mem_of_getElem? h)), g⟩
theorem wt2 {w : Cond} (i : Nat) (h : tables_1_2[i]? = some w) (g : goodWord w = true) : w ∈ Wt := List.mem_filter.mpr ⟨List.mem_append_right _ (List.mem_append_right _ (List.mem_append_left _ (List.mem_of_getElem? h))), g⟩
theorem wt3 {w : Cond} (i : Nat) (h : tables_1_3[i]? = some w) (g : goodWord w = true) : w ∈ Wt := List.mem_filter.mpr ⟨List.mem_append_right _ (List.mem_append_right _ (List.mem_append_right _ (List.mem_append_left _ (List.mem_of_getElem? h)))), g⟩
theorem wt4 {w : Cond} (i : Nat) (h : tables_1_4[i]? = some w) (g : goodWord w = true) : w ∈ Wt := List.mem_filter.mpr ⟨List.mem_append_right _ (List.mem_append_right _ (List.mem_append_right _ (List.mem_append_right _ (List.mem_of_getElem? h)))), g⟩
theorem wn1 {w : Cond} (i : Nat) (h : tables_1_1[i]? = some w) (g : isNest w = true) : w ∈ Wn := List.mem_filter.mpr ⟨List.mem_append_left _ (List.mem_of_getElem? h), g⟩
theorem wn2 {w : Cond} (i : Nat) (h : tables_1_2[i]? = some w) (g : isNest w = true) : w ∈ Wn := List.mem_filter.mpr ⟨List.mem_append_right _ (List.mem_append_left _ (List.mem_of_getElem? h)), g⟩
theorem wn3 {w : Cond} (i : Nat) (h : tables_1_3[i]? = some w) (g : isNest w = true) : w ∈ Wn := List.mem_filter.mpr ⟨List.mem_append_right _ (List.mem_append_right _ (List.mem_append_left _ (List.mem_of_getElem? h))), g⟩
theorem wts {w : Cond} (i : Nat) (h : (k2_sels lw_privs)[i]? = some w) (g : goodWord w = true) : w ∈ Wt := List.mem_filter.mpr ⟨List.mem_append_left _ (List.mem_of_getElem? h), g⟩
theorem memAll {big ws : List Cond} (ps : List Nat) (hp : ws = ps.filterMap (fun i => big[i]?)) : ∀ w ∈ ws, w ∈ big := by
  intro w hw
  rw [hp] at hw
  obtain ⟨i, -, hi⟩ := List.mem_filterMap.mp hw
  exact List.mem_of_getElem? hi
theorem wta {ws : List Cond} (ps : List Nat) (hp : ws = ps.filterMap (fun i => tables_1[i]?)) (g : ws.all goodWord = true) : ∀ w ∈ ws, w ∈ Wt := fun w hw => List.mem_filter.mpr ⟨List.mem_append_right _ (memAll ps hp w hw), List.all_eq_true.mp g w hw⟩
theorem uw_FU : ∀ w ∈ u_ws R_FU F_FU 11, w ∈ Wt := wta [255, 257, 259, 261, 263, 265, 267, 269, 271, 273, 275] (by decide +kernel) (by decide +kernel)
theorem uw_Packs : ∀ w ∈ u_ws R_Packs F_Packs 4, w ∈ Wt := wta [36, 38, 40, 42] (by decide +kernel) (by decide +kernel)
theorem uw_Feats : ∀ w ∈ u_ws R_Feats F_Feats 5, w ∈ Wt := wta [65, 67, 69, 71, 73] (by decide +kernel) (by decide +kernel)
theorem uw_Users : ∀ w ∈ u_ws R_Users F_Users 8, w ∈ Wt := wta [104, 106, 108, 110, 112, 114, 116, 118] (by decide +kernel) (by decide +kernel)
theorem uw_Turns : ∀ w ∈ u_ws R_Turns F_Turns 5, w ∈ Wt := wta [142, 144, 146, 148, 150] (by decide +kernel) (by decide +kernel)
theorem uw_Snap : ∀ w ∈ u_ws R_Snap F_Snap 12, w ∈ Wt := wta [187, 189, 191, 193, 195, 197, 199, 201, 203, 205, 207, 209] (by decide +kernel) (by decide +kernel)
theorem uw_Clo : ∀ w ∈ u_ws R_Clo F_Clo 4, w ∈ Wt := wta [222, 224, 226, 228] (by decide +kernel) (by decide +kernel)
theorem uw_Reas : ∀ w ∈ u_ws R_Reas F_Reas 2, w ∈ Wt := wta [239, 241] (by decide +kernel) (by decide +kernel)
theorem uw_Mod : ∀ w ∈ u_ws R_Mod F_Mod 46, w ∈ Wt := wta [575, 577, 579, 581, 583, 585, 587, 589, 591, 593, 595, 597, 599, 601, 603, 605, 607, 609, 611, 613, 615, 617, 619, 621, 623, 625, 627, 629, 631, 633, 635, 637, 639, 641, 643, 645, 647, 649, 651, 653, 655, 657, 659, 661, 663, 665] (by decide +kernel) (by decide +kernel)
abbrev b_Packs_init : ByteArray := prog_4_method_1_code
def y_Packs_init : MethodName := ⟨"FeatureUnions$Packs", "<init>", "()V"⟩
def q_Packs_init : MI := (y_Packs_init, b_Packs_init, 1, none, { frames := 1, cells := 1, slots := 10, locals := 12 })
abbrev b_Feats_init : ByteArray := prog_3_method_1_code
def y_Feats_init : MethodName := ⟨"FeatureUnions$Features", "<init>", "()V"⟩
def q_Feats_init : MI := (y_Feats_init, b_Feats_init, 1, none, { frames := 1, cells := 4, slots := 240, locals := 12 })
abbrev b_Users_init : ByteArray := prog_8_method_1_code
def y_Users_init : MethodName := ⟨"FeatureUnions$Users", "<init>", "()V"⟩
def q_Users_init : MI := (y_Users_init, b_Users_init, 1, none, { frames := 1, cells := 7, slots := 280, locals := 12 })
abbrev b_Turns_init : ByteArray := prog_7_method_1_code
def y_Turns_init : MethodName := ⟨"FeatureUnions$Turns", "<init>", "()V"⟩
def q_Turns_init : MI := (y_Turns_init, b_Turns_init, 1, none, { frames := 1, cells := 4, slots := 240, locals := 12 })
abbrev b_Snap_init : ByteArray := prog_6_method_1_code
def y_Snap_init : MethodName := ⟨"FeatureUnions$Snapshot", "<init>", "(LFeatureUnions$Packs;LFeatureUnions$Features;LFeatureUnions$Users;LFeatureUnions$Turns;)V"⟩
def q_Snap_init : MI := (y_Snap_init, b_Snap_init, 5, none, { frames := 1, cells := 1, slots := 40, locals := 12 })
abbrev b_Clo_init : ByteArray := prog_2_method_1_code
def y_Clo_init : MethodName := ⟨"FeatureUnions$Closure", "<init>", "(LFeatureUnions$Snapshot;)V"⟩
def q_Clo_init : MI := (y_Clo_init, b_Clo_init, 2, none, { frames := 1, cells := 2, slots := 440, locals := 12 })
abbrev b_Reas_init : ByteArray := prog_5_method_1_code
def y_Reas_init : MethodName := ⟨"FeatureUnions$Reasons", "<init>", "(LFeatureUnions$Snapshot;LFeatureUnions$Closure;)V"⟩
def q_Reas_init : MI := (y_Reas_init, b_Reas_init, 3, none, { frames := 1, cells := 0, slots := 0, locals := 12 })
abbrev b_FU_init : ByteArray := prog_1_method_1_code
def y_FU_init : MethodName := ⟨"FeatureUnions", "<init>", "()V"⟩
def q_FU_init : MI := (y_FU_init, b_FU_init, 1, none, { frames := 2, cells := 30, slots := 1854, locals := 36 })
abbrev b_Packs_add : ByteArray := prog_4_method_3_code
def y_Packs_add : MethodName := ⟨"FeatureUnions$Packs", "add", "(Z)I"⟩
def q_Packs_add : MI := (y_Packs_add, b_Packs_add, 2, some .int, { frames := 0, cells := 0, slots := 0, locals := 0 })
abbrev b_FU_pack : ByteArray := prog_1_method_2_code
def y_FU_pack : MethodName := ⟨"FeatureUnions", "pack", "(Z)I"⟩
def q_FU_pack : MI := (y_FU_pack, b_FU_pack, 2, some .int, { frames := 1, cells := 0, slots := 0, locals := 21 })
abbrev b_FU_within : ByteArray := prog_1_method_18_code
def y_FU_within : MethodName := ⟨"FeatureUnions", "within", "(II)Z"⟩
def q_FU_within : MI := (y_FU_within, b_FU_within, 2, some .boolean, { frames := 0, cells := 0, slots := 0, locals := 0 })
abbrev b_Packs_has : ByteArray := prog_4_method_2_code
def y_Packs_has : MethodName := ⟨"FeatureUnions$Packs", "has", "(I)Z"⟩
def q_Packs_has : MI := (y_Packs_has, b_Packs_has, 2, some .boolean, { frames := 1, cells := 0, slots := 0, locals := 21 })
abbrev b_Feats_find : ByteArray := prog_3_method_4_code
def y_Feats_find : MethodName := ⟨"FeatureUnions$Features", "find", "(II)I"⟩
def q_Feats_find : MI := (y_Feats_find, b_Feats_find, 4, some .int, { frames := 0, cells := 0, slots := 0, locals := 0 })
abbrev b_Feats_countOf : ByteArray := prog_3_method_5_code
def y_Feats_countOf : MethodName := ⟨"FeatureUnions$Features", "countOf", "(I)I"⟩
def q_Feats_countOf : MI := (y_Feats_countOf, b_Feats_countOf, 4, some .int, { frames := 0, cells := 0, slots := 0, locals := 0 })
abbrev b_Feats_add : ByteArray := prog_3_method_3_code
def y_Feats_add : MethodName := ⟨"FeatureUnions$Features", "add", "(IIZI)I"⟩
def q_Feats_add : MI := (y_Feats_add, b_Feats_add, 5, some .int, { frames := 0, cells := 0, slots := 0, locals := 0 })
abbrev b_FU_feature : ByteArray := prog_1_method_3_code
def y_FU_feature : MethodName := ⟨"FeatureUnions", "feature", "(IIZI)I"⟩
def q_FU_feature : MI := (y_FU_feature, b_FU_feature, 5, some .int, { frames := 2, cells := 0, slots := 0, locals := 42 })
abbrev b_FU_bit : ByteArray := prog_1_method_19_code
def y_FU_bit : MethodName := ⟨"FeatureUnions", "bit", "(II)Z"⟩
def q_FU_bit : MI := (y_FU_bit, b_FU_bit, 2, some .boolean, { frames := 0, cells := 0, slots := 0, locals := 0 })
abbrev b_Packs_makeRoot : ByteArray := prog_4_method_4_code
def y_Packs_makeRoot : MethodName := ⟨"FeatureUnions$Packs", "makeRoot", "(IZ)V"⟩
def q_Packs_makeRoot : MI := (y_Packs_makeRoot, b_Packs_makeRoot, 3, none, { frames := 0, cells := 0, slots := 0, locals := 0 })
abbrev b_FU_root : ByteArray := prog_1_method_4_code
def y_FU_root : MethodName := ⟨"FeatureUnions", "root", "(IZ)Z"⟩
def q_FU_root : MI := (y_FU_root, b_FU_root, 3, some .boolean, { frames := 2, cells := 0, slots := 0, locals := 42 })
abbrev b_Users_add : ByteArray := prog_8_method_3_code
def y_Users_add : MethodName := ⟨"FeatureUnions$Users", "add", "(IIZZZI)I"⟩
def q_Users_add : MI := (y_Users_add, b_Users_add, 7, some .int, { frames := 0, cells := 0, slots := 0, locals := 0 })
abbrev b_FU_user : ByteArray := prog_1_method_5_code
def y_FU_user : MethodName := ⟨"FeatureUnions", "user", "(IIZZZI)I"⟩
def q_FU_user : MI := (y_FU_user, b_FU_user, 7, some .int, { frames := 2, cells := 0, slots := 0, locals := 42 })
abbrev b_Users_has : ByteArray := prog_8_method_2_code
def y_Users_has : MethodName := ⟨"FeatureUnions$Users", "has", "(I)Z"⟩
def q_Users_has : MI := (y_Users_has, b_Users_has, 2, some .boolean, { frames := 1, cells := 0, slots := 0, locals := 21 })
abbrev b_FU_asks : ByteArray := prog_1_method_6_code
def y_FU_asks : MethodName := ⟨"FeatureUnions", "asks", "(II)I"⟩
def q_FU_asks : MI := (y_FU_asks, b_FU_asks, 3, some .int, { frames := 2, cells := 0, slots := 0, locals := 42 })
abbrev b_Feats_has : ByteArray := prog_3_method_2_code
def y_Feats_has : MethodName := ⟨"FeatureUnions$Features", "has", "(I)Z"⟩
def q_Feats_has : MI := (y_Feats_has, b_Feats_has, 2, some .boolean, { frames := 1, cells := 0, slots := 0, locals := 21 })
abbrev b_Turns_add : ByteArray := prog_7_method_2_code
def y_Turns_add : MethodName := ⟨"FeatureUnions$Turns", "add", "(IIII)I"⟩
def q_Turns_add : MI := (y_Turns_add, b_Turns_add, 5, some .int, { frames := 0, cells := 0, slots := 0, locals := 0 })
abbrev b_FU_turn : ByteArray := prog_1_method_7_code
def y_FU_turn : MethodName := ⟨"FeatureUnions", "turn", "(IIII)I"⟩
def q_FU_turn : MI := (y_FU_turn, b_FU_turn, 8, some .int, { frames := 2, cells := 0, slots := 0, locals := 42 })
abbrev b_Snap_take : ByteArray := prog_6_method_2_code
def y_Snap_take : MethodName := ⟨"FeatureUnions$Snapshot", "take", "(I)V"⟩
def q_Snap_take : MI := (y_Snap_take, b_Snap_take, 2, none, { frames := 1, cells := 0, slots := 0, locals := 64 })
abbrev b_Clo_bring : ByteArray := prog_2_method_16_code
def y_Clo_bring : MethodName := ⟨"FeatureUnions$Closure", "bring", "(II)V"⟩
def q_Clo_bring : MI := (y_Clo_bring, b_Clo_bring, 3, none, { frames := 0, cells := 0, slots := 0, locals := 0 })
abbrev b_Clo_bringThere : ByteArray := prog_2_method_13_code
def y_Clo_bringThere : MethodName := ⟨"FeatureUnions$Closure", "bringThere", "(III)V"⟩
def q_Clo_bringThere : MI := (y_Clo_bringThere, b_Clo_bringThere, 4, none, { frames := 1, cells := 0, slots := 0, locals := 22 })
abbrev b_Snap_counts : ByteArray := prog_6_method_3_code
def y_Snap_counts : MethodName := ⟨"FeatureUnions$Snapshot", "counts", "(I)Z"⟩
def q_Snap_counts : MI := (y_Snap_counts, b_Snap_counts, 2, some .boolean, { frames := 1, cells := 0, slots := 0, locals := 21 })
abbrev b_Clo_bringLive : ByteArray := prog_2_method_14_code
def y_Clo_bringLive : MethodName := ⟨"FeatureUnions$Closure", "bringLive", "(III)V"⟩
def q_Clo_bringLive : MI := (y_Clo_bringLive, b_Clo_bringLive, 4, none, { frames := 2, cells := 0, slots := 0, locals := 42 })
abbrev b_Snap_isDefaultOfRoot : ByteArray := prog_6_method_6_code
def y_Snap_isDefaultOfRoot : MethodName := ⟨"FeatureUnions$Snapshot", "isDefaultOfRoot", "(I)Z"⟩
def q_Snap_isDefaultOfRoot : MI := (y_Snap_isDefaultOfRoot, b_Snap_isDefaultOfRoot, 2, some .boolean, { frames := 1, cells := 0, slots := 0, locals := 21 })
abbrev b_Clo_onStage : ByteArray := prog_2_method_4_code
def y_Clo_onStage : MethodName := ⟨"FeatureUnions$Closure", "onStage", "(II)I"⟩
def q_Clo_onStage : MI := (y_Clo_onStage, b_Clo_onStage, 3, some .int, { frames := 0, cells := 0, slots := 0, locals := 0 })
abbrev b_Clo_isBy : ByteArray := prog_2_method_12_code
def y_Clo_isBy : MethodName := ⟨"FeatureUnions$Closure", "isBy", "(II)Z"⟩
def q_Clo_isBy : MI := (y_Clo_isBy, b_Clo_isBy, 2, some .boolean, { frames := 0, cells := 0, slots := 0, locals := 0 })
abbrev b_Clo_bringOn : ByteArray := prog_2_method_15_code
def y_Clo_bringOn : MethodName := ⟨"FeatureUnions$Closure", "bringOn", "(III)V"⟩
def q_Clo_bringOn : MI := (y_Clo_bringOn, b_Clo_bringOn, 4, none, { frames := 1, cells := 0, slots := 0, locals := 22 })
abbrev b_Clo_followThere : ByteArray := prog_2_method_8_code
def y_Clo_followThere : MethodName := ⟨"FeatureUnions$Closure", "followThere", "(III)V"⟩
def q_Clo_followThere : MI := (y_Clo_followThere, b_Clo_followThere, 7, none, { frames := 3, cells := 0, slots := 0, locals := 65 })
abbrev b_Users_farSide : ByteArray := prog_8_method_4_code
def y_Users_farSide : MethodName := ⟨"FeatureUnions$Users", "farSide", "(II)I"⟩
def q_Users_farSide : MI := (y_Users_farSide, b_Users_farSide, 3, some .int, { frames := 0, cells := 0, slots := 0, locals := 0 })
abbrev b_Snap_isAskedBy : ByteArray := prog_6_method_4_code
def y_Snap_isAskedBy : MethodName := ⟨"FeatureUnions$Snapshot", "isAskedBy", "(II)Z"⟩
def q_Snap_isAskedBy : MI := (y_Snap_isAskedBy, b_Snap_isAskedBy, 3, some .boolean, { frames := 1, cells := 0, slots := 0, locals := 21 })
abbrev b_Snap_isDefaultFor : ByteArray := prog_6_method_5_code
def y_Snap_isDefaultFor : MethodName := ⟨"FeatureUnions$Snapshot", "isDefaultFor", "(II)Z"⟩
def q_Snap_isDefaultFor : MI := (y_Snap_isDefaultFor, b_Snap_isDefaultFor, 3, some .boolean, { frames := 0, cells := 0, slots := 0, locals := 0 })
abbrev b_Clo_followLive : ByteArray := prog_2_method_9_code
def y_Clo_followLive : MethodName := ⟨"FeatureUnions$Closure", "followLive", "(III)V"⟩
def q_Clo_followLive : MI := (y_Clo_followLive, b_Clo_followLive, 6, none, { frames := 2, cells := 0, slots := 0, locals := 45 })
abbrev b_Clo_thereStage : ByteArray := prog_2_method_2_code
def y_Clo_thereStage : MethodName := ⟨"FeatureUnions$Closure", "thereStage", "(II)I"⟩
def q_Clo_thereStage : MI := (y_Clo_thereStage, b_Clo_thereStage, 3, some .int, { frames := 0, cells := 0, slots := 0, locals := 0 })
abbrev b_Clo_liveStage : ByteArray := prog_2_method_3_code
def y_Clo_liveStage : MethodName := ⟨"FeatureUnions$Closure", "liveStage", "(II)I"⟩
def q_Clo_liveStage : MI := (y_Clo_liveStage, b_Clo_liveStage, 3, some .int, { frames := 0, cells := 0, slots := 0, locals := 0 })
abbrev b_Clo_followTurn : ByteArray := prog_2_method_11_code
def y_Clo_followTurn : MethodName := ⟨"FeatureUnions$Closure", "followTurn", "(III)V"⟩
def q_Clo_followTurn : MI := (y_Clo_followTurn, b_Clo_followTurn, 7, none, { frames := 3, cells := 0, slots := 0, locals := 65 })
abbrev b_Clo_followOn : ByteArray := prog_2_method_10_code
def y_Clo_followOn : MethodName := ⟨"FeatureUnions$Closure", "followOn", "(III)V"⟩
def q_Clo_followOn : MI := (y_Clo_followOn, b_Clo_followOn, 6, none, { frames := 4, cells := 0, slots := 0, locals := 91 })
abbrev b_Clo_follow : ByteArray := prog_2_method_7_code
def y_Clo_follow : MethodName := ⟨"FeatureUnions$Closure", "follow", "(I)V"⟩
def q_Clo_follow : MI := (y_Clo_follow, b_Clo_follow, 4, none, { frames := 5, cells := 0, slots := 0, locals := 116 })
abbrev b_Clo_close : ByteArray := prog_2_method_6_code
def y_Clo_close : MethodName := ⟨"FeatureUnions$Closure", "close", "()V"⟩
def q_Clo_close : MI := (y_Clo_close, b_Clo_close, 2, none, { frames := 6, cells := 0, slots := 0, locals := 139 })
abbrev b_Clo_greatestStage : ByteArray := prog_2_method_5_code
def y_Clo_greatestStage : MethodName := ⟨"FeatureUnions$Closure", "greatestStage", "()I"⟩
def q_Clo_greatestStage : MI := (y_Clo_greatestStage, b_Clo_greatestStage, 1, some .int, { frames := 0, cells := 0, slots := 0, locals := 0 })
abbrev b_FU_run : ByteArray := prog_1_method_8_code
def y_FU_run : MethodName := ⟨"FeatureUnions", "run", "(I)I"⟩
def q_FU_run : MI := (y_FU_run, b_FU_run, 2, some .int, { frames := 7, cells := 0, slots := 0, locals := 160 })
abbrev b_FU_there : ByteArray := prog_1_method_9_code
def y_FU_there : MethodName := ⟨"FeatureUnions", "there", "(II)I"⟩
def q_FU_there : MI := (y_FU_there, b_FU_there, 3, some .int, { frames := 2, cells := 0, slots := 0, locals := 42 })
abbrev b_FU_live : ByteArray := prog_1_method_10_code
def y_FU_live : MethodName := ⟨"FeatureUnions", "live", "(II)I"⟩
def q_FU_live : MI := (y_FU_live, b_FU_live, 3, some .int, { frames := 2, cells := 0, slots := 0, locals := 42 })
abbrev b_FU_on : ByteArray := prog_1_method_11_code
def y_FU_on : MethodName := ⟨"FeatureUnions", "on", "(II)I"⟩
def q_FU_on : MI := (y_FU_on, b_FU_on, 3, some .int, { frames := 2, cells := 0, slots := 0, locals := 42 })
abbrev b_Reas_isByRoot : ByteArray := prog_5_method_5_code
def y_Reas_isByRoot : MethodName := ⟨"FeatureUnions$Reasons", "isByRoot", "(III)Z"⟩
def q_Reas_isByRoot : MI := (y_Reas_isByRoot, b_Reas_isByRoot, 4, some .boolean, { frames := 2, cells := 0, slots := 0, locals := 42 })
abbrev b_Reas_isByUser : ByteArray := prog_5_method_6_code
def y_Reas_isByUser : MethodName := ⟨"FeatureUnions$Reasons", "isByUser", "(IIII)Z"⟩
def q_Reas_isByUser : MI := (y_Reas_isByUser, b_Reas_isByUser, 7, some .boolean, { frames := 2, cells := 0, slots := 0, locals := 43 })
abbrev b_Reas_isByTurn : ByteArray := prog_5_method_7_code
def y_Reas_isByTurn : MethodName := ⟨"FeatureUnions$Reasons", "isByTurn", "(IIII)Z"⟩
def q_Reas_isByTurn : MI := (y_Reas_isByTurn, b_Reas_isByTurn, 9, some .boolean, { frames := 2, cells := 0, slots := 0, locals := 42 })
abbrev b_Reas_isByOtherSide : ByteArray := prog_5_method_8_code
def y_Reas_isByOtherSide : MethodName := ⟨"FeatureUnions$Reasons", "isByOtherSide", "(III)Z"⟩
def q_Reas_isByOtherSide : MI := (y_Reas_isByOtherSide, b_Reas_isByOtherSide, 5, some .boolean, { frames := 1, cells := 0, slots := 0, locals := 22 })
abbrev b_Reas_holds : ByteArray := prog_5_method_4_code
def y_Reas_holds : MethodName := ⟨"FeatureUnions$Reasons", "holds", "(III)Z"⟩
def q_Reas_holds : MI := (y_Reas_holds, b_Reas_holds, 6, some .boolean, { frames := 3, cells := 0, slots := 0, locals := 70 })
abbrev b_Reas_countOf : ByteArray := prog_5_method_2_code
def y_Reas_countOf : MethodName := ⟨"FeatureUnions$Reasons", "countOf", "(II)I"⟩
def q_Reas_countOf : MI := (y_Reas_countOf, b_Reas_countOf, 5, some .int, { frames := 4, cells := 0, slots := 0, locals := 95 })
abbrev b_FU_reasons : ByteArray := prog_1_method_12_code
def y_FU_reasons : MethodName := ⟨"FeatureUnions", "reasons", "(II)I"⟩
def q_FU_reasons : MI := (y_FU_reasons, b_FU_reasons, 3, some .int, { frames := 5, cells := 0, slots := 0, locals := 119 })
abbrev b_Reas_find : ByteArray := prog_5_method_3_code
def y_Reas_find : MethodName := ⟨"FeatureUnions$Reasons", "find", "(III)I"⟩
def q_Reas_find : MI := (y_Reas_find, b_Reas_find, 6, some .int, { frames := 4, cells := 0, slots := 0, locals := 95 })
abbrev b_FU_reason : ByteArray := prog_1_method_13_code
def y_FU_reason : MethodName := ⟨"FeatureUnions", "reason", "(IIII)I"⟩
def q_FU_reason : MI := (y_FU_reason, b_FU_reason, 6, some .int, { frames := 5, cells := 0, slots := 0, locals := 120 })
abbrev b_Feats_exclude : ByteArray := prog_3_method_6_code
def y_Feats_exclude : MethodName := ⟨"FeatureUnions$Features", "exclude", "(II)Z"⟩
def q_Feats_exclude : MI := (y_Feats_exclude, b_Feats_exclude, 3, some .boolean, { frames := 0, cells := 0, slots := 0, locals := 0 })
abbrev b_FU_clash : ByteArray := prog_1_method_14_code
def y_FU_clash : MethodName := ⟨"FeatureUnions", "clash", "(II)I"⟩
def q_FU_clash : MI := (y_FU_clash, b_FU_clash, 7, some .int, { frames := 1, cells := 0, slots := 0, locals := 22 })
abbrev b_FU_noteLeavers : ByteArray := prog_1_method_17_code
def y_FU_noteLeavers : MethodName := ⟨"FeatureUnions", "noteLeavers", "()V"⟩
def q_FU_noteLeavers : MI := (y_FU_noteLeavers, b_FU_noteLeavers, 3, none, { frames := 1, cells := 0, slots := 0, locals := 22 })
abbrev b_FU_without : ByteArray := prog_1_method_15_code
def y_FU_without : MethodName := ⟨"FeatureUnions", "without", "(II)I"⟩
def q_FU_without : MI := (y_FU_without, b_FU_without, 4, some .int, { frames := 7, cells := 0, slots := 0, locals := 160 })
abbrev b_FU_left : ByteArray := prog_1_method_16_code
def y_FU_left : MethodName := ⟨"FeatureUnions", "left", "(I)I"⟩
def q_FU_left : MI := (y_FU_left, b_FU_left, 2, some .int, { frames := 1, cells := 0, slots := 0, locals := 21 })
abbrev b_Mod_init : ByteArray := prog_10_method_1_code
def y_Mod_init : MethodName := ⟨"FeatureUnionsModel", "<init>", "()V"⟩
def q_Mod_init : MI := (y_Mod_init, b_Mod_init, 1, none, { frames := 1, cells := 29, slots := 2920, locals := 12 })
abbrev b_Mod_isPack : ByteArray := prog_10_method_3_code
def y_Mod_isPack : MethodName := ⟨"FeatureUnionsModel", "isPack", "(I)Z"⟩
def q_Mod_isPack : MI := (y_Mod_isPack, b_Mod_isPack, 2, some .boolean, { frames := 0, cells := 0, slots := 0, locals := 0 })
abbrev b_Mod_isUser : ByteArray := prog_10_method_4_code
def y_Mod_isUser : MethodName := ⟨"FeatureUnionsModel", "isUser", "(I)Z"⟩
def q_Mod_isUser : MI := (y_Mod_isUser, b_Mod_isUser, 2, some .boolean, { frames := 0, cells := 0, slots := 0, locals := 0 })
abbrev b_Mod_isFeature : ByteArray := prog_10_method_5_code
def y_Mod_isFeature : MethodName := ⟨"FeatureUnionsModel", "isFeature", "(I)Z"⟩
def q_Mod_isFeature : MI := (y_Mod_isFeature, b_Mod_isFeature, 2, some .boolean, { frames := 0, cells := 0, slots := 0, locals := 0 })
abbrev b_Mod_pack : ByteArray := prog_10_method_6_code
def y_Mod_pack : MethodName := ⟨"FeatureUnionsModel", "pack", "(Z)I"⟩
def q_Mod_pack : MI := (y_Mod_pack, b_Mod_pack, 2, some .int, { frames := 0, cells := 0, slots := 0, locals := 0 })
abbrev b_Mod_named : ByteArray := prog_10_method_7_code
def y_Mod_named : MethodName := ⟨"FeatureUnionsModel", "named", "(II)I"⟩
def q_Mod_named : MI := (y_Mod_named, b_Mod_named, 5, some .int, { frames := 0, cells := 0, slots := 0, locals := 0 })
abbrev b_Mod_many : ByteArray := prog_10_method_8_code
def y_Mod_many : MethodName := ⟨"FeatureUnionsModel", "many", "(I)I"⟩
def q_Mod_many : MI := (y_Mod_many, b_Mod_many, 4, some .int, { frames := 0, cells := 0, slots := 0, locals := 0 })
abbrev b_Mod_feature : ByteArray := prog_10_method_9_code
def y_Mod_feature : MethodName := ⟨"FeatureUnionsModel", "feature", "(IIZI)I"⟩
def q_Mod_feature : MI := (y_Mod_feature, b_Mod_feature, 5, some .int, { frames := 1, cells := 0, slots := 0, locals := 24 })
abbrev b_Mod_root : ByteArray := prog_10_method_10_code
def y_Mod_root : MethodName := ⟨"FeatureUnionsModel", "root", "(IZ)Z"⟩
def q_Mod_root : MI := (y_Mod_root, b_Mod_root, 3, some .boolean, { frames := 1, cells := 0, slots := 0, locals := 21 })
abbrev b_Mod_user : ByteArray := prog_10_method_11_code
def y_Mod_user : MethodName := ⟨"FeatureUnionsModel", "user", "(IIZZZI)I"⟩
def q_Mod_user : MI := (y_Mod_user, b_Mod_user, 7, some .int, { frames := 1, cells := 0, slots := 0, locals := 21 })
abbrev b_Mod_asking : ByteArray := prog_10_method_12_code
def y_Mod_asking : MethodName := ⟨"FeatureUnionsModel", "asking", "(III)I"⟩
def q_Mod_asking : MI := (y_Mod_asking, b_Mod_asking, 6, some .int, { frames := 0, cells := 0, slots := 0, locals := 0 })
abbrev b_Mod_asks : ByteArray := prog_10_method_13_code
def y_Mod_asks : MethodName := ⟨"FeatureUnionsModel", "asks", "(II)I"⟩
def q_Mod_asks : MI := (y_Mod_asks, b_Mod_asks, 4, some .int, { frames := 1, cells := 0, slots := 0, locals := 25 })
abbrev b_Mod_turn : ByteArray := prog_10_method_14_code
def y_Mod_turn : MethodName := ⟨"FeatureUnionsModel", "turn", "(IIII)I"⟩
def q_Mod_turn : MI := (y_Mod_turn, b_Mod_turn, 7, some .int, { frames := 1, cells := 0, slots := 0, locals := 24 })
abbrev b_Mod_isFor : ByteArray := prog_10_method_15_code
def y_Mod_isFor : MethodName := ⟨"FeatureUnionsModel", "isFor", "(I)Z"⟩
def q_Mod_isFor : MI := (y_Mod_isFor, b_Mod_isFor, 2, some .boolean, { frames := 0, cells := 0, slots := 0, locals := 0 })
abbrev b_Mod_farSide : ByteArray := prog_10_method_16_code
def y_Mod_farSide : MethodName := ⟨"FeatureUnionsModel", "farSide", "(II)I"⟩
def q_Mod_farSide : MI := (y_Mod_farSide, b_Mod_farSide, 3, some .int, { frames := 0, cells := 0, slots := 0, locals := 0 })
abbrev b_Mod_came : ByteArray := prog_10_method_17_code
def y_Mod_came : MethodName := ⟨"FeatureUnionsModel", "came", "(II)Z"⟩
def q_Mod_came : MI := (y_Mod_came, b_Mod_came, 2, some .boolean, { frames := 0, cells := 0, slots := 0, locals := 0 })
abbrev b_Mod_comesThere : ByteArray := prog_10_method_18_code
def y_Mod_comesThere : MethodName := ⟨"FeatureUnionsModel", "comesThere", "(III)Z"⟩
def q_Mod_comesThere : MI := (y_Mod_comesThere, b_Mod_comesThere, 7, some .boolean, { frames := 1, cells := 0, slots := 0, locals := 22 })
abbrev b_Mod_comesLive : ByteArray := prog_10_method_19_code
def y_Mod_comesLive : MethodName := ⟨"FeatureUnionsModel", "comesLive", "(III)Z"⟩
def q_Mod_comesLive : MI := (y_Mod_comesLive, b_Mod_comesLive, 6, some .boolean, { frames := 1, cells := 0, slots := 0, locals := 21 })
abbrev b_Mod_tell : ByteArray := prog_10_method_20_code
def y_Mod_tell : MethodName := ⟨"FeatureUnionsModel", "tell", "(II)V"⟩
def q_Mod_tell : MI := (y_Mod_tell, b_Mod_tell, 3, none, { frames := 0, cells := 0, slots := 0, locals := 0 })
abbrev b_Mod_turnsOn : ByteArray := prog_10_method_22_code
def y_Mod_turnsOn : MethodName := ⟨"FeatureUnionsModel", "turnsOn", "(IIIIII)Z"⟩
def q_Mod_turnsOn : MI := (y_Mod_turnsOn, b_Mod_turnsOn, 8, some .boolean, { frames := 1, cells := 0, slots := 0, locals := 22 })
abbrev b_Mod_gather : ByteArray := prog_10_method_21_code
def y_Mod_gather : MethodName := ⟨"FeatureUnionsModel", "gather", "(III)V"⟩
def q_Mod_gather : MI := (y_Mod_gather, b_Mod_gather, 8, none, { frames := 2, cells := 0, slots := 0, locals := 49 })
abbrev b_Mod_comesOn : ByteArray := prog_10_method_23_code
def y_Mod_comesOn : MethodName := ⟨"FeatureUnionsModel", "comesOn", "(III)Z"⟩
def q_Mod_comesOn : MI := (y_Mod_comesOn, b_Mod_comesOn, 4, some .boolean, { frames := 3, cells := 0, slots := 0, locals := 76 })
abbrev b_Mod_close : ByteArray := prog_10_method_24_code
def y_Mod_close : MethodName := ⟨"FeatureUnionsModel", "close", "()I"⟩
def q_Mod_close : MI := (y_Mod_close, b_Mod_close, 4, some .int, { frames := 4, cells := 0, slots := 0, locals := 99 })
abbrev b_Mod_run : ByteArray := prog_10_method_25_code
def y_Mod_run : MethodName := ⟨"FeatureUnionsModel", "run", "(I)I"⟩
def q_Mod_run : MI := (y_Mod_run, b_Mod_run, 4, some .int, { frames := 5, cells := 0, slots := 0, locals := 122 })
abbrev b_Mod_isSide : ByteArray := prog_10_method_26_code
def y_Mod_isSide : MethodName := ⟨"FeatureUnionsModel", "isSide", "(I)Z"⟩
def q_Mod_isSide : MI := (y_Mod_isSide, b_Mod_isSide, 1, some .boolean, { frames := 0, cells := 0, slots := 0, locals := 0 })
abbrev b_Mod_there : ByteArray := prog_10_method_27_code
def y_Mod_there : MethodName := ⟨"FeatureUnionsModel", "there", "(II)I"⟩
def q_Mod_there : MI := (y_Mod_there, b_Mod_there, 3, some .int, { frames := 1, cells := 0, slots := 0, locals := 20 })
abbrev b_Mod_live : ByteArray := prog_10_method_28_code
def y_Mod_live : MethodName := ⟨"FeatureUnionsModel", "live", "(II)I"⟩
def q_Mod_live : MI := (y_Mod_live, b_Mod_live, 3, some .int, { frames := 1, cells := 0, slots := 0, locals := 20 })
abbrev b_Mod_on : ByteArray := prog_10_method_29_code
def y_Mod_on : MethodName := ⟨"FeatureUnionsModel", "on", "(II)I"⟩
def q_Mod_on : MI := (y_Mod_on, b_Mod_on, 3, some .int, { frames := 1, cells := 0, slots := 0, locals := 20 })
abbrev b_Mod_reasoned : ByteArray := prog_10_method_30_code
def y_Mod_reasoned : MethodName := ⟨"FeatureUnionsModel", "reasoned", "(II)Z"⟩
def q_Mod_reasoned : MI := (y_Mod_reasoned, b_Mod_reasoned, 4, some .boolean, { frames := 3, cells := 0, slots := 0, locals := 76 })
abbrev b_Mod_reasons : ByteArray := prog_10_method_31_code
def y_Mod_reasons : MethodName := ⟨"FeatureUnionsModel", "reasons", "(II)I"⟩
def q_Mod_reasons : MI := (y_Mod_reasons, b_Mod_reasons, 3, some .int, { frames := 4, cells := 0, slots := 0, locals := 99 })
abbrev b_Mod_reason : ByteArray := prog_10_method_32_code
def y_Mod_reason : MethodName := ⟨"FeatureUnionsModel", "reason", "(IIII)I"⟩
def q_Mod_reason : MI := (y_Mod_reason, b_Mod_reason, 5, some .int, { frames := 4, cells := 0, slots := 0, locals := 99 })
abbrev b_Mod_clash : ByteArray := prog_10_method_33_code
def y_Mod_clash : MethodName := ⟨"FeatureUnionsModel", "clash", "(II)I"⟩
def q_Mod_clash : MI := (y_Mod_clash, b_Mod_clash, 7, some .int, { frames := 0, cells := 0, slots := 0, locals := 0 })
abbrev b_Mod_without : ByteArray := prog_10_method_34_code
def y_Mod_without : MethodName := ⟨"FeatureUnionsModel", "without", "(II)I"⟩
def q_Mod_without : MI := (y_Mod_without, b_Mod_without, 6, some .int, { frames := 5, cells := 0, slots := 0, locals := 122 })
abbrev b_Mod_left : ByteArray := prog_10_method_35_code
def y_Mod_left : MethodName := ⟨"FeatureUnionsModel", "left", "(I)I"⟩
def q_Mod_left : MI := (y_Mod_left, b_Mod_left, 2, some .int, { frames := 0, cells := 0, slots := 0, locals := 0 })
abbrev b_Law_law : ByteArray := code
def y_Law_law : MethodName := ⟨"FeatureUnionsLaw", "law", "([I)Z"⟩
def q_Law_law : MI := (y_Law_law, b_Law_law, 4, some .boolean, room_1)
end
section
theorem mk_Packs_init : MK q_Packs_init 0 := ⟨wt1 23 rfl rfl, wt1 2 rfl rfl, by decide +kernel, by decide +kernel, by decide +kernel⟩
theorem in_Packs_init : Cond.instanceMethod (my q_Packs_init) ∈ Wt := wt1 22 rfl rfl
theorem mk_Feats_init : MK q_Feats_init 0 := ⟨wt1 50 rfl rfl, wt1 3 rfl rfl, by decide +kernel, by decide +kernel, by decide +kernel⟩
theorem in_Feats_init : Cond.instanceMethod (my q_Feats_init) ∈ Wt := wt1 49 rfl rfl
theorem mk_Users_init : MK q_Users_init 0 := ⟨wt1 81 rfl rfl, wt1 4 rfl rfl, by decide +kernel, by decide +kernel, by decide +kernel⟩
theorem in_Users_init : Cond.instanceMethod (my q_Users_init) ∈ Wt := wt1 80 rfl rfl
theorem mk_Turns_init : MK q_Turns_init 0 := ⟨wt1 125 rfl rfl, wt1 5 rfl rfl, by decide +kernel, by decide +kernel, by decide +kernel⟩
theorem in_Turns_init : Cond.instanceMethod (my q_Turns_init) ∈ Wt := wt1 124 rfl rfl
theorem mk_Snap_init : MK q_Snap_init 4 := ⟨wt1 157 rfl rfl, wt1 6 rfl rfl, by decide +kernel, by decide +kernel, by decide +kernel⟩
theorem in_Snap_init : Cond.instanceMethod (my q_Snap_init) ∈ Wt := wt1 156 rfl rfl
theorem mk_Clo_init : MK q_Clo_init 1 := ⟨wt1 216 rfl rfl, wt1 7 rfl rfl, by decide +kernel, by decide +kernel, by decide +kernel⟩
theorem in_Clo_init : Cond.instanceMethod (my q_Clo_init) ∈ Wt := wt1 215 rfl rfl
theorem mk_Reas_init : MK q_Reas_init 2 := ⟨wt1 235 rfl rfl, wt1 8 rfl rfl, by decide +kernel, by decide +kernel, by decide +kernel⟩
theorem in_Reas_init : Cond.instanceMethod (my q_Reas_init) ∈ Wt := wt1 234 rfl rfl
theorem mk_FU_init : MK q_FU_init 0 := ⟨wt1 15 rfl rfl, wt1 1 rfl rfl, by decide +kernel, by decide +kernel, by decide +kernel⟩
theorem in_FU_init : Cond.instanceMethod (my q_FU_init) ∈ Wt := wt1 14 rfl rfl
theorem mk_Packs_add : MK q_Packs_add 1 := ⟨wt2 45 rfl rfl, wt1 2 rfl rfl, by decide +kernel, by decide +kernel, by decide +kernel⟩
theorem mv_Packs_add : MV q_Packs_add := ⟨wt2 43 rfl rfl, wt2 44 rfl rfl⟩
theorem mk_FU_pack : MK q_FU_pack 1 := ⟨wt2 41 rfl rfl, wt1 1 rfl rfl, by decide +kernel, by decide +kernel, by decide +kernel⟩
theorem mv_FU_pack : MV q_FU_pack := ⟨wt2 39 rfl rfl, wt2 40 rfl rfl⟩
theorem mk_FU_within : MK q_FU_within 2 := ⟨wt2 56 rfl rfl, wt1 1 rfl rfl, by decide +kernel, by decide +kernel, by decide +kernel⟩
theorem sx_FU_within : Cond.static (my q_FU_within) ∈ Wt := wt2 55 rfl rfl
theorem mk_Packs_has : MK q_Packs_has 1 := ⟨wt2 53 rfl rfl, wt1 2 rfl rfl, by decide +kernel, by decide +kernel, by decide +kernel⟩
theorem mv_Packs_has : MV q_Packs_has := ⟨wt2 51 rfl rfl, wt2 52 rfl rfl⟩
theorem mk_Feats_find : MK q_Feats_find 2 := ⟨wt2 61 rfl rfl, wt1 3 rfl rfl, by decide +kernel, by decide +kernel, by decide +kernel⟩
theorem mv_Feats_find : MV q_Feats_find := ⟨wt2 59 rfl rfl, wt2 60 rfl rfl⟩
theorem mk_Feats_countOf : MK q_Feats_countOf 1 := ⟨wt2 65 rfl rfl, wt1 3 rfl rfl, by decide +kernel, by decide +kernel, by decide +kernel⟩
theorem mv_Feats_countOf : MV q_Feats_countOf := ⟨wt2 63 rfl rfl, wt2 64 rfl rfl⟩
theorem mk_Feats_add : MK q_Feats_add 4 := ⟨wt2 69 rfl rfl, wt1 3 rfl rfl, by decide +kernel, by decide +kernel, by decide +kernel⟩
theorem mv_Feats_add : MV q_Feats_add := ⟨wt2 67 rfl rfl, wt2 68 rfl rfl⟩
theorem mk_FU_feature : MK q_FU_feature 4 := ⟨wt2 49 rfl rfl, wt1 1 rfl rfl, by decide +kernel, by decide +kernel, by decide +kernel⟩
theorem mv_FU_feature : MV q_FU_feature := ⟨wt2 47 rfl rfl, wt2 48 rfl rfl⟩
theorem mk_FU_bit : MK q_FU_bit 2 := ⟨wt2 76 rfl rfl, wt1 1 rfl rfl, by decide +kernel, by decide +kernel, by decide +kernel⟩
theorem sx_FU_bit : Cond.static (my q_FU_bit) ∈ Wt := wt2 75 rfl rfl
theorem mk_Packs_makeRoot : MK q_Packs_makeRoot 2 := ⟨wt2 80 rfl rfl, wt1 2 rfl rfl, by decide +kernel, by decide +kernel, by decide +kernel⟩
theorem mv_Packs_makeRoot : MV q_Packs_makeRoot := ⟨wt2 78 rfl rfl, wt2 79 rfl rfl⟩
theorem mk_FU_root : MK q_FU_root 2 := ⟨wt2 73 rfl rfl, wt1 1 rfl rfl, by decide +kernel, by decide +kernel, by decide +kernel⟩
theorem mv_FU_root : MV q_FU_root := ⟨wt2 71 rfl rfl, wt2 72 rfl rfl⟩
theorem mk_Users_add : MK q_Users_add 6 := ⟨wt2 88 rfl rfl, wt1 4 rfl rfl, by decide +kernel, by decide +kernel, by decide +kernel⟩
theorem mv_Users_add : MV q_Users_add := ⟨wt2 86 rfl rfl, wt2 87 rfl rfl⟩
theorem mk_FU_user : MK q_FU_user 6 := ⟨wt2 84 rfl rfl, wt1 1 rfl rfl, by decide +kernel, by decide +kernel, by decide +kernel⟩
theorem mv_FU_user : MV q_FU_user := ⟨wt2 82 rfl rfl, wt2 83 rfl rfl⟩
theorem mk_Users_has : MK q_Users_has 1 := ⟨wt2 96 rfl rfl, wt1 4 rfl rfl, by decide +kernel, by decide +kernel, by decide +kernel⟩
theorem mv_Users_has : MV q_Users_has := ⟨wt2 94 rfl rfl, wt2 95 rfl rfl⟩
theorem mk_FU_asks : MK q_FU_asks 2 := ⟨wt2 92 rfl rfl, wt1 1 rfl rfl, by decide +kernel, by decide +kernel, by decide +kernel⟩
theorem mv_FU_asks : MV q_FU_asks := ⟨wt2 90 rfl rfl, wt2 91 rfl rfl⟩
theorem mk_Feats_has : MK q_Feats_has 1 := ⟨wt2 105 rfl rfl, wt1 3 rfl rfl, by decide +kernel, by decide +kernel, by decide +kernel⟩
theorem mv_Feats_has : MV q_Feats_has := ⟨wt2 103 rfl rfl, wt2 104 rfl rfl⟩
theorem mk_Turns_add : MK q_Turns_add 4 := ⟨wt2 110 rfl rfl, wt1 5 rfl rfl, by decide +kernel, by decide +kernel, by decide +kernel⟩
theorem mv_Turns_add : MV q_Turns_add := ⟨wt2 108 rfl rfl, wt2 109 rfl rfl⟩
theorem mk_FU_turn : MK q_FU_turn 4 := ⟨wt2 101 rfl rfl, wt1 1 rfl rfl, by decide +kernel, by decide +kernel, by decide +kernel⟩
theorem mv_FU_turn : MV q_FU_turn := ⟨wt2 99 rfl rfl, wt2 100 rfl rfl⟩
theorem mk_Snap_take : MK q_Snap_take 1 := ⟨wt2 118 rfl rfl, wt1 6 rfl rfl, by decide +kernel, by decide +kernel, by decide +kernel⟩
theorem mv_Snap_take : MV q_Snap_take := ⟨wt2 116 rfl rfl, wt2 117 rfl rfl⟩
theorem mk_Clo_bring : MK q_Clo_bring 2 := ⟨wt2 134 rfl rfl, wt1 7 rfl rfl, by decide +kernel, by decide +kernel, by decide +kernel⟩
theorem mv_Clo_bring : MV q_Clo_bring := ⟨wt2 133 rfl rfl, wts 1 rfl rfl⟩
theorem mk_Clo_bringThere : MK q_Clo_bringThere 3 := ⟨wt2 130 rfl rfl, wt1 7 rfl rfl, by decide +kernel, by decide +kernel, by decide +kernel⟩
theorem mv_Clo_bringThere : MV q_Clo_bringThere := ⟨wt2 129 rfl rfl, wts 0 rfl rfl⟩
theorem mk_Snap_counts : MK q_Snap_counts 1 := ⟨wt2 150 rfl rfl, wt1 6 rfl rfl, by decide +kernel, by decide +kernel, by decide +kernel⟩
theorem mv_Snap_counts : MV q_Snap_counts := ⟨wt2 148 rfl rfl, wt2 149 rfl rfl⟩
theorem mk_Clo_bringLive : MK q_Clo_bringLive 3 := ⟨wt2 146 rfl rfl, wt1 7 rfl rfl, by decide +kernel, by decide +kernel, by decide +kernel⟩
theorem mv_Clo_bringLive : MV q_Clo_bringLive := ⟨wt2 145 rfl rfl, wts 4 rfl rfl⟩
theorem mk_Snap_isDefaultOfRoot : MK q_Snap_isDefaultOfRoot 1 := ⟨wt2 155 rfl rfl, wt1 6 rfl rfl, by decide +kernel, by decide +kernel, by decide +kernel⟩
theorem mv_Snap_isDefaultOfRoot : MV q_Snap_isDefaultOfRoot := ⟨wt2 153 rfl rfl, wt2 154 rfl rfl⟩
theorem mk_Clo_onStage : MK q_Clo_onStage 2 := ⟨wt2 159 rfl rfl, wt1 7 rfl rfl, by decide +kernel, by decide +kernel, by decide +kernel⟩
theorem mv_Clo_onStage : MV q_Clo_onStage := ⟨wt2 157 rfl rfl, wt2 158 rfl rfl⟩
theorem mk_Clo_isBy : MK q_Clo_isBy 2 := ⟨wt2 162 rfl rfl, wt1 7 rfl rfl, by decide +kernel, by decide +kernel, by decide +kernel⟩
theorem sx_Clo_isBy : Cond.static (my q_Clo_isBy) ∈ Wt := wt2 161 rfl rfl
theorem mk_Clo_bringOn : MK q_Clo_bringOn 3 := ⟨wt2 166 rfl rfl, wt1 7 rfl rfl, by decide +kernel, by decide +kernel, by decide +kernel⟩
theorem mv_Clo_bringOn : MV q_Clo_bringOn := ⟨wt2 165 rfl rfl, wts 5 rfl rfl⟩
theorem mk_Clo_followThere : MK q_Clo_followThere 3 := ⟨wt2 142 rfl rfl, wt1 7 rfl rfl, by decide +kernel, by decide +kernel, by decide +kernel⟩
theorem mv_Clo_followThere : MV q_Clo_followThere := ⟨wt2 141 rfl rfl, wts 3 rfl rfl⟩
theorem mk_Users_farSide : MK q_Users_farSide 2 := ⟨wt2 174 rfl rfl, wt1 4 rfl rfl, by decide +kernel, by decide +kernel, by decide +kernel⟩
theorem mv_Users_farSide : MV q_Users_farSide := ⟨wt2 172 rfl rfl, wt2 173 rfl rfl⟩
theorem mk_Snap_isAskedBy : MK q_Snap_isAskedBy 2 := ⟨wt2 178 rfl rfl, wt1 6 rfl rfl, by decide +kernel, by decide +kernel, by decide +kernel⟩
theorem mv_Snap_isAskedBy : MV q_Snap_isAskedBy := ⟨wt2 176 rfl rfl, wt2 177 rfl rfl⟩
theorem mk_Snap_isDefaultFor : MK q_Snap_isDefaultFor 2 := ⟨wt2 182 rfl rfl, wt1 6 rfl rfl, by decide +kernel, by decide +kernel, by decide +kernel⟩
theorem mv_Snap_isDefaultFor : MV q_Snap_isDefaultFor := ⟨wt2 180 rfl rfl, wt2 181 rfl rfl⟩
theorem mk_Clo_followLive : MK q_Clo_followLive 3 := ⟨wt2 170 rfl rfl, wt1 7 rfl rfl, by decide +kernel, by decide +kernel, by decide +kernel⟩
theorem mv_Clo_followLive : MV q_Clo_followLive := ⟨wt2 169 rfl rfl, wts 6 rfl rfl⟩
theorem mk_Clo_thereStage : MK q_Clo_thereStage 2 := ⟨wt2 190 rfl rfl, wt1 7 rfl rfl, by decide +kernel, by decide +kernel, by decide +kernel⟩
theorem mv_Clo_thereStage : MV q_Clo_thereStage := ⟨wt2 188 rfl rfl, wt2 189 rfl rfl⟩
theorem mk_Clo_liveStage : MK q_Clo_liveStage 2 := ⟨wt2 198 rfl rfl, wt1 7 rfl rfl, by decide +kernel, by decide +kernel, by decide +kernel⟩
theorem mv_Clo_liveStage : MV q_Clo_liveStage := ⟨wt2 196 rfl rfl, wt2 197 rfl rfl⟩
theorem mk_Clo_followTurn : MK q_Clo_followTurn 3 := ⟨wt2 194 rfl rfl, wt1 7 rfl rfl, by decide +kernel, by decide +kernel, by decide +kernel⟩
theorem mv_Clo_followTurn : MV q_Clo_followTurn := ⟨wt2 193 rfl rfl, wts 8 rfl rfl⟩
theorem mk_Clo_followOn : MK q_Clo_followOn 3 := ⟨wt2 186 rfl rfl, wt1 7 rfl rfl, by decide +kernel, by decide +kernel, by decide +kernel⟩
theorem mv_Clo_followOn : MV q_Clo_followOn := ⟨wt2 185 rfl rfl, wts 7 rfl rfl⟩
theorem mk_Clo_follow : MK q_Clo_follow 1 := ⟨wt2 138 rfl rfl, wt1 7 rfl rfl, by decide +kernel, by decide +kernel, by decide +kernel⟩
theorem mv_Clo_follow : MV q_Clo_follow := ⟨wt2 137 rfl rfl, wts 2 rfl rfl⟩
theorem mk_Clo_close : MK q_Clo_close 0 := ⟨wt2 125 rfl rfl, wt1 7 rfl rfl, by decide +kernel, by decide +kernel, by decide +kernel⟩
theorem mv_Clo_close : MV q_Clo_close := ⟨wt2 123 rfl rfl, wt2 124 rfl rfl⟩
theorem mk_Clo_greatestStage : MK q_Clo_greatestStage 0 := ⟨wt2 202 rfl rfl, wt1 7 rfl rfl, by decide +kernel, by decide +kernel, by decide +kernel⟩
theorem mv_Clo_greatestStage : MV q_Clo_greatestStage := ⟨wt2 200 rfl rfl, wt2 201 rfl rfl⟩
theorem mk_FU_run : MK q_FU_run 1 := ⟨wt2 114 rfl rfl, wt1 1 rfl rfl, by decide +kernel, by decide +kernel, by decide +kernel⟩
theorem mv_FU_run : MV q_FU_run := ⟨wt2 112 rfl rfl, wt2 113 rfl rfl⟩
theorem mk_FU_there : MK q_FU_there 2 := ⟨wt2 206 rfl rfl, wt1 1 rfl rfl, by decide +kernel, by decide +kernel, by decide +kernel⟩
theorem mv_FU_there : MV q_FU_there := ⟨wt2 204 rfl rfl, wt2 205 rfl rfl⟩
theorem mk_FU_live : MK q_FU_live 2 := ⟨wt2 211 rfl rfl, wt1 1 rfl rfl, by decide +kernel, by decide +kernel, by decide +kernel⟩
theorem mv_FU_live : MV q_FU_live := ⟨wt2 209 rfl rfl, wt2 210 rfl rfl⟩
theorem mk_FU_on : MK q_FU_on 2 := ⟨wt2 216 rfl rfl, wt1 1 rfl rfl, by decide +kernel, by decide +kernel, by decide +kernel⟩
theorem mv_FU_on : MV q_FU_on := ⟨wt2 214 rfl rfl, wt2 215 rfl rfl⟩
theorem mk_Reas_isByRoot : MK q_Reas_isByRoot 3 := ⟨wt2 234 rfl rfl, wt1 8 rfl rfl, by decide +kernel, by decide +kernel, by decide +kernel⟩
theorem mv_Reas_isByRoot : MV q_Reas_isByRoot := ⟨wt2 233 rfl rfl, wts 10 rfl rfl⟩
theorem mk_Reas_isByUser : MK q_Reas_isByUser 4 := ⟨wt3 0 rfl rfl, wt1 8 rfl rfl, by decide +kernel, by decide +kernel, by decide +kernel⟩
theorem mv_Reas_isByUser : MV q_Reas_isByUser := ⟨wt2 239 rfl rfl, wts 11 rfl rfl⟩
theorem mk_Reas_isByTurn : MK q_Reas_isByTurn 4 := ⟨wt3 8 rfl rfl, wt1 8 rfl rfl, by decide +kernel, by decide +kernel, by decide +kernel⟩
theorem mv_Reas_isByTurn : MV q_Reas_isByTurn := ⟨wt3 7 rfl rfl, wts 12 rfl rfl⟩
theorem mk_Reas_isByOtherSide : MK q_Reas_isByOtherSide 3 := ⟨wt3 14 rfl rfl, wt1 8 rfl rfl, by decide +kernel, by decide +kernel, by decide +kernel⟩
theorem mv_Reas_isByOtherSide : MV q_Reas_isByOtherSide := ⟨wt3 13 rfl rfl, wts 13 rfl rfl⟩
theorem mk_Reas_holds : MK q_Reas_holds 3 := ⟨wt2 230 rfl rfl, wt1 8 rfl rfl, by decide +kernel, by decide +kernel, by decide +kernel⟩
theorem mv_Reas_holds : MV q_Reas_holds := ⟨wt2 229 rfl rfl, wts 9 rfl rfl⟩
theorem mk_Reas_countOf : MK q_Reas_countOf 2 := ⟨wt2 226 rfl rfl, wt1 8 rfl rfl, by decide +kernel, by decide +kernel, by decide +kernel⟩
theorem mv_Reas_countOf : MV q_Reas_countOf := ⟨wt2 224 rfl rfl, wt2 225 rfl rfl⟩
theorem mk_FU_reasons : MK q_FU_reasons 2 := ⟨wt2 221 rfl rfl, wt1 1 rfl rfl, by decide +kernel, by decide +kernel, by decide +kernel⟩
theorem mv_FU_reasons : MV q_FU_reasons := ⟨wt2 219 rfl rfl, wt2 220 rfl rfl⟩
theorem mk_Reas_find : MK q_Reas_find 3 := ⟨wt3 22 rfl rfl, wt1 8 rfl rfl, by decide +kernel, by decide +kernel, by decide +kernel⟩
theorem mv_Reas_find : MV q_Reas_find := ⟨wt3 20 rfl rfl, wt3 21 rfl rfl⟩
theorem mk_FU_reason : MK q_FU_reason 4 := ⟨wt3 18 rfl rfl, wt1 1 rfl rfl, by decide +kernel, by decide +kernel, by decide +kernel⟩
theorem mv_FU_reason : MV q_FU_reason := ⟨wt3 16 rfl rfl, wt3 17 rfl rfl⟩
theorem mk_Feats_exclude : MK q_Feats_exclude 2 := ⟨wt3 30 rfl rfl, wt1 3 rfl rfl, by decide +kernel, by decide +kernel, by decide +kernel⟩
theorem mv_Feats_exclude : MV q_Feats_exclude := ⟨wt3 28 rfl rfl, wt3 29 rfl rfl⟩
theorem mk_FU_clash : MK q_FU_clash 2 := ⟨wt3 26 rfl rfl, wt1 1 rfl rfl, by decide +kernel, by decide +kernel, by decide +kernel⟩
theorem mv_FU_clash : MV q_FU_clash := ⟨wt3 24 rfl rfl, wt3 25 rfl rfl⟩
theorem mk_FU_noteLeavers : MK q_FU_noteLeavers 0 := ⟨wt3 38 rfl rfl, wt1 1 rfl rfl, by decide +kernel, by decide +kernel, by decide +kernel⟩
theorem mv_FU_noteLeavers : MV q_FU_noteLeavers := ⟨wt3 37 rfl rfl, wts 14 rfl rfl⟩
theorem mk_FU_without : MK q_FU_without 2 := ⟨wt3 34 rfl rfl, wt1 1 rfl rfl, by decide +kernel, by decide +kernel, by decide +kernel⟩
theorem mv_FU_without : MV q_FU_without := ⟨wt3 32 rfl rfl, wt3 33 rfl rfl⟩
theorem mk_FU_left : MK q_FU_left 1 := ⟨wt3 42 rfl rfl, wt1 1 rfl rfl, by decide +kernel, by decide +kernel, by decide +kernel⟩
theorem mv_FU_left : MV q_FU_left := ⟨wt3 40 rfl rfl, wt3 41 rfl rfl⟩
theorem mk_Mod_init : MK q_Mod_init 0 := ⟨wt3 47 rfl rfl, wt1 9 rfl rfl, by decide +kernel, by decide +kernel, by decide +kernel⟩
theorem in_Mod_init : Cond.instanceMethod (my q_Mod_init) ∈ Wt := wt3 46 rfl rfl
theorem mk_Mod_isPack : MK q_Mod_isPack 1 := ⟨wt3 199 rfl rfl, wt1 9 rfl rfl, by decide +kernel, by decide +kernel, by decide +kernel⟩
theorem mv_Mod_isPack : MV q_Mod_isPack := ⟨wt3 198 rfl rfl, wts 15 rfl rfl⟩
theorem mk_Mod_isUser : MK q_Mod_isUser 1 := ⟨wt3 223 rfl rfl, wt1 9 rfl rfl, by decide +kernel, by decide +kernel, by decide +kernel⟩
theorem mv_Mod_isUser : MV q_Mod_isUser := ⟨wt3 222 rfl rfl, wts 18 rfl rfl⟩
theorem mk_Mod_isFeature : MK q_Mod_isFeature 1 := ⟨wt3 235 rfl rfl, wt1 9 rfl rfl, by decide +kernel, by decide +kernel, by decide +kernel⟩
theorem mv_Mod_isFeature : MV q_Mod_isFeature := ⟨wt3 234 rfl rfl, wts 20 rfl rfl⟩
theorem mk_Mod_pack : MK q_Mod_pack 1 := ⟨wt3 191 rfl rfl, wt1 9 rfl rfl, by decide +kernel, by decide +kernel, by decide +kernel⟩
theorem mv_Mod_pack : MV q_Mod_pack := ⟨wt3 189 rfl rfl, wt3 190 rfl rfl⟩
theorem mk_Mod_named : MK q_Mod_named 2 := ⟨wt3 207 rfl rfl, wt1 9 rfl rfl, by decide +kernel, by decide +kernel, by decide +kernel⟩
theorem mv_Mod_named : MV q_Mod_named := ⟨wt3 206 rfl rfl, wts 17 rfl rfl⟩
theorem mk_Mod_many : MK q_Mod_many 1 := ⟨wt3 203 rfl rfl, wt1 9 rfl rfl, by decide +kernel, by decide +kernel, by decide +kernel⟩
theorem mv_Mod_many : MV q_Mod_many := ⟨wt3 202 rfl rfl, wts 16 rfl rfl⟩
theorem mk_Mod_feature : MK q_Mod_feature 4 := ⟨wt3 195 rfl rfl, wt1 9 rfl rfl, by decide +kernel, by decide +kernel, by decide +kernel⟩
theorem mv_Mod_feature : MV q_Mod_feature := ⟨wt3 193 rfl rfl, wt3 194 rfl rfl⟩
theorem mk_Mod_root : MK q_Mod_root 2 := ⟨wt3 211 rfl rfl, wt1 9 rfl rfl, by decide +kernel, by decide +kernel, by decide +kernel⟩
theorem mv_Mod_root : MV q_Mod_root := ⟨wt3 209 rfl rfl, wt3 210 rfl rfl⟩
theorem mk_Mod_user : MK q_Mod_user 6 := ⟨wt3 215 rfl rfl, wt1 9 rfl rfl, by decide +kernel, by decide +kernel, by decide +kernel⟩
theorem mv_Mod_user : MV q_Mod_user := ⟨wt3 213 rfl rfl, wt3 214 rfl rfl⟩
theorem mk_Mod_asking : MK q_Mod_asking 3 := ⟨wt3 227 rfl rfl, wt1 9 rfl rfl, by decide +kernel, by decide +kernel, by decide +kernel⟩
theorem mv_Mod_asking : MV q_Mod_asking := ⟨wt3 226 rfl rfl, wts 19 rfl rfl⟩
theorem mk_Mod_asks : MK q_Mod_asks 2 := ⟨wt3 219 rfl rfl, wt1 9 rfl rfl, by decide +kernel, by decide +kernel, by decide +kernel⟩
theorem mv_Mod_asks : MV q_Mod_asks := ⟨wt3 217 rfl rfl, wt3 218 rfl rfl⟩
theorem mk_Mod_turn : MK q_Mod_turn 4 := ⟨wt3 231 rfl rfl, wt1 9 rfl rfl, by decide +kernel, by decide +kernel, by decide +kernel⟩
theorem mv_Mod_turn : MV q_Mod_turn := ⟨wt3 229 rfl rfl, wt3 230 rfl rfl⟩
theorem mk_Mod_isFor : MK q_Mod_isFor 1 := ⟨wt4 11 rfl rfl, wt1 9 rfl rfl, by decide +kernel, by decide +kernel, by decide +kernel⟩
theorem mv_Mod_isFor : MV q_Mod_isFor := ⟨wt4 10 rfl rfl, wts 23 rfl rfl⟩
theorem mk_Mod_farSide : MK q_Mod_farSide 2 := ⟨wt4 15 rfl rfl, wt1 9 rfl rfl, by decide +kernel, by decide +kernel, by decide +kernel⟩
theorem mv_Mod_farSide : MV q_Mod_farSide := ⟨wt4 14 rfl rfl, wts 24 rfl rfl⟩
theorem mk_Mod_came : MK q_Mod_came 2 := ⟨wt4 18 rfl rfl, wt1 9 rfl rfl, by decide +kernel, by decide +kernel, by decide +kernel⟩
theorem sx_Mod_came : Cond.static (my q_Mod_came) ∈ Wt := wt4 17 rfl rfl
theorem mk_Mod_comesThere : MK q_Mod_comesThere 3 := ⟨wt4 7 rfl rfl, wt1 9 rfl rfl, by decide +kernel, by decide +kernel, by decide +kernel⟩
theorem mv_Mod_comesThere : MV q_Mod_comesThere := ⟨wt4 6 rfl rfl, wts 22 rfl rfl⟩
theorem mk_Mod_comesLive : MK q_Mod_comesLive 3 := ⟨wt4 22 rfl rfl, wt1 9 rfl rfl, by decide +kernel, by decide +kernel, by decide +kernel⟩
theorem mv_Mod_comesLive : MV q_Mod_comesLive := ⟨wt4 21 rfl rfl, wts 25 rfl rfl⟩
theorem mk_Mod_tell : MK q_Mod_tell 2 := ⟨wt4 34 rfl rfl, wt1 9 rfl rfl, by decide +kernel, by decide +kernel, by decide +kernel⟩
theorem mv_Mod_tell : MV q_Mod_tell := ⟨wt4 33 rfl rfl, wts 28 rfl rfl⟩
theorem mk_Mod_turnsOn : MK q_Mod_turnsOn 6 := ⟨wt4 38 rfl rfl, wt1 9 rfl rfl, by decide +kernel, by decide +kernel, by decide +kernel⟩
theorem mv_Mod_turnsOn : MV q_Mod_turnsOn := ⟨wt4 37 rfl rfl, wts 29 rfl rfl⟩
theorem mk_Mod_gather : MK q_Mod_gather 3 := ⟨wt4 30 rfl rfl, wt1 9 rfl rfl, by decide +kernel, by decide +kernel, by decide +kernel⟩
theorem mv_Mod_gather : MV q_Mod_gather := ⟨wt4 29 rfl rfl, wts 27 rfl rfl⟩
theorem mk_Mod_comesOn : MK q_Mod_comesOn 3 := ⟨wt4 26 rfl rfl, wt1 9 rfl rfl, by decide +kernel, by decide +kernel, by decide +kernel⟩
theorem mv_Mod_comesOn : MV q_Mod_comesOn := ⟨wt4 25 rfl rfl, wts 26 rfl rfl⟩
theorem mk_Mod_close : MK q_Mod_close 0 := ⟨wt4 3 rfl rfl, wt1 9 rfl rfl, by decide +kernel, by decide +kernel, by decide +kernel⟩
theorem mv_Mod_close : MV q_Mod_close := ⟨wt4 2 rfl rfl, wts 21 rfl rfl⟩
theorem mk_Mod_run : MK q_Mod_run 1 := ⟨wt3 239 rfl rfl, wt1 9 rfl rfl, by decide +kernel, by decide +kernel, by decide +kernel⟩
theorem mv_Mod_run : MV q_Mod_run := ⟨wt3 237 rfl rfl, wt3 238 rfl rfl⟩
theorem mk_Mod_isSide : MK q_Mod_isSide 1 := ⟨wt4 45 rfl rfl, wt1 9 rfl rfl, by decide +kernel, by decide +kernel, by decide +kernel⟩
theorem sx_Mod_isSide : Cond.static (my q_Mod_isSide) ∈ Wt := wt4 44 rfl rfl
theorem mk_Mod_there : MK q_Mod_there 2 := ⟨wt4 42 rfl rfl, wt1 9 rfl rfl, by decide +kernel, by decide +kernel, by decide +kernel⟩
theorem mv_Mod_there : MV q_Mod_there := ⟨wt4 40 rfl rfl, wt4 41 rfl rfl⟩
theorem mk_Mod_live : MK q_Mod_live 2 := ⟨wt4 49 rfl rfl, wt1 9 rfl rfl, by decide +kernel, by decide +kernel, by decide +kernel⟩
theorem mv_Mod_live : MV q_Mod_live := ⟨wt4 47 rfl rfl, wt4 48 rfl rfl⟩
theorem mk_Mod_on : MK q_Mod_on 2 := ⟨wt4 53 rfl rfl, wt1 9 rfl rfl, by decide +kernel, by decide +kernel, by decide +kernel⟩
theorem mv_Mod_on : MV q_Mod_on := ⟨wt4 51 rfl rfl, wt4 52 rfl rfl⟩
theorem mk_Mod_reasoned : MK q_Mod_reasoned 2 := ⟨wt4 61 rfl rfl, wt1 9 rfl rfl, by decide +kernel, by decide +kernel, by decide +kernel⟩
theorem mv_Mod_reasoned : MV q_Mod_reasoned := ⟨wt4 60 rfl rfl, wts 30 rfl rfl⟩
theorem mk_Mod_reasons : MK q_Mod_reasons 2 := ⟨wt4 57 rfl rfl, wt1 9 rfl rfl, by decide +kernel, by decide +kernel, by decide +kernel⟩
theorem mv_Mod_reasons : MV q_Mod_reasons := ⟨wt4 55 rfl rfl, wt4 56 rfl rfl⟩
theorem mk_Mod_reason : MK q_Mod_reason 4 := ⟨wt4 65 rfl rfl, wt1 9 rfl rfl, by decide +kernel, by decide +kernel, by decide +kernel⟩
theorem mv_Mod_reason : MV q_Mod_reason := ⟨wt4 63 rfl rfl, wt4 64 rfl rfl⟩
theorem mk_Mod_clash : MK q_Mod_clash 2 := ⟨wt4 69 rfl rfl, wt1 9 rfl rfl, by decide +kernel, by decide +kernel, by decide +kernel⟩
theorem mv_Mod_clash : MV q_Mod_clash := ⟨wt4 67 rfl rfl, wt4 68 rfl rfl⟩
theorem mk_Mod_without : MK q_Mod_without 2 := ⟨wt4 73 rfl rfl, wt1 9 rfl rfl, by decide +kernel, by decide +kernel, by decide +kernel⟩
theorem mv_Mod_without : MV q_Mod_without := ⟨wt4 71 rfl rfl, wt4 72 rfl rfl⟩
theorem mk_Mod_left : MK q_Mod_left 1 := ⟨wt4 77 rfl rfl, wt1 9 rfl rfl, by decide +kernel, by decide +kernel, by decide +kernel⟩
theorem mv_Mod_left : MV q_Mod_left := ⟨wt4 75 rfl rfl, wt4 76 rfl rfl⟩
end
section
theorem nd_FU (b : Nat) (ad : Nat → Nat) : ∀ j, j < 11 → defaultValue (ty_FU j) = vp_V (([vn, vn, vn, vn, vn, vn, vn, vn, vn, vi 0, vi 0] : List AV).map (cv b ad)) j
  | 0, _ => rfl
  | 1, _ => rfl
  | 2, _ => rfl
  | 3, _ => rfl
  | 4, _ => rfl
  | 5, _ => rfl
  | 6, _ => rfl
  | 7, _ => rfl
  | 8, _ => rfl
  | 9, _ => rfl
  | 10, _ => rfl
  | n + 11, h => absurd h (by omega)
theorem nd_Packs (b : Nat) (ad : Nat → Nat) : ∀ j, j < 4 → defaultValue (ty_Packs j) = vp_V (([vi 0, vi 0, vi 0, vn] : List AV).map (cv b ad)) j
  | 0, _ => rfl
  | 1, _ => rfl
  | 2, _ => rfl
  | 3, _ => rfl
  | n + 4, h => absurd h (by omega)
theorem nd_Feats (b : Nat) (ad : Nat → Nat) : ∀ j, j < 5 → defaultValue (ty_Feats j) = vp_V (([vi 0, vn, vn, vn, vn] : List AV).map (cv b ad)) j
  | 0, _ => rfl
  | 1, _ => rfl
  | 2, _ => rfl
  | 3, _ => rfl
  | 4, _ => rfl
  | n + 5, h => absurd h (by omega)
theorem nd_Users (b : Nat) (ad : Nat → Nat) : ∀ j, j < 8 → defaultValue (ty_Users j) = vp_V (([vi 0, vn, vn, vn, vn, vn, vn, vn] : List AV).map (cv b ad)) j
  | 0, _ => rfl
  | 1, _ => rfl
  | 2, _ => rfl
  | 3, _ => rfl
  | 4, _ => rfl
  | 5, _ => rfl
  | 6, _ => rfl
  | 7, _ => rfl
  | n + 8, h => absurd h (by omega)
theorem nd_Turns (b : Nat) (ad : Nat → Nat) : ∀ j, j < 5 → defaultValue (ty_Turns j) = vp_V (([vi 0, vn, vn, vn, vn] : List AV).map (cv b ad)) j
  | 0, _ => rfl
  | 1, _ => rfl
  | 2, _ => rfl
  | 3, _ => rfl
  | 4, _ => rfl
  | n + 5, h => absurd h (by omega)
theorem nd_Snap (b : Nat) (ad : Nat → Nat) : ∀ j, j < 12 → defaultValue (ty_Snap j) = vp_V (([vn, vn, vn, vn, vi 0, vi 0, vi 0, vi 0, vi 0, vi 0, vi 0, vn] : List AV).map (cv b ad)) j
  | 0, _ => rfl
  | 1, _ => rfl
  | 2, _ => rfl
  | 3, _ => rfl
  | 4, _ => rfl
  | 5, _ => rfl
  | 6, _ => rfl
  | 7, _ => rfl
  | 8, _ => rfl
  | 9, _ => rfl
  | 10, _ => rfl
  | 11, _ => rfl
  | n + 12, h => absurd h (by omega)
theorem nd_Clo (b : Nat) (ad : Nat → Nat) : ∀ j, j < 4 → defaultValue (ty_Clo j) = vp_V (([vn, vn, vn, vi 0] : List AV).map (cv b ad)) j
  | 0, _ => rfl
  | 1, _ => rfl
  | 2, _ => rfl
  | 3, _ => rfl
  | n + 4, h => absurd h (by omega)
theorem nd_Reas (b : Nat) (ad : Nat → Nat) : ∀ j, j < 2 → defaultValue (ty_Reas j) = vp_V (([vn, vn] : List AV).map (cv b ad)) j
  | 0, _ => rfl
  | 1, _ => rfl
  | n + 2, h => absurd h (by omega)
theorem nd_Mod (b : Nat) (ad : Nat → Nat) : ∀ j, j < 46 → defaultValue (ty_Mod j) = vp_V (([vi 0, vi 0, vi 0, vi 0, vi 0, vi 0, vn, vn, vn, vn, vn, vn, vn, vn, vn, vn, vn, vn, vn, vn, vn, vn, vn, vn, vn, vi 0, vi 0, vi 0, vi 0, vi 0, vi 0, vn, vi 0, vi 0, vn, vn, vn, vn, vn, vn, vi 0, vn, vi 0, vn, vn, vi 0] : List AV).map (cv b ad)) j
  | 0, _ => rfl
  | 1, _ => rfl
  | 2, _ => rfl
  | 3, _ => rfl
  | 4, _ => rfl
  | 5, _ => rfl
  | 6, _ => rfl
  | 7, _ => rfl
  | 8, _ => rfl
  | 9, _ => rfl
  | 10, _ => rfl
  | 11, _ => rfl
  | 12, _ => rfl
  | 13, _ => rfl
  | 14, _ => rfl
  | 15, _ => rfl
  | 16, _ => rfl
  | 17, _ => rfl
  | 18, _ => rfl
  | 19, _ => rfl
  | 20, _ => rfl
  | 21, _ => rfl
  | 22, _ => rfl
  | 23, _ => rfl
  | 24, _ => rfl
  | 25, _ => rfl
  | 26, _ => rfl
  | 27, _ => rfl
  | 28, _ => rfl
  | 29, _ => rfl
  | 30, _ => rfl
  | 31, _ => rfl
  | 32, _ => rfl
  | 33, _ => rfl
  | 34, _ => rfl
  | 35, _ => rfl
  | 36, _ => rfl
  | 37, _ => rfl
  | 38, _ => rfl
  | 39, _ => rfl
  | 40, _ => rfl
  | 41, _ => rfl
  | 42, _ => rfl
  | 43, _ => rfl
  | 44, _ => rfl
  | 45, _ => rfl
  | n + 46, h => absurd h (by omega)
theorem fg_FU_12 : FG "FeatureUnions" 12 0 0 := ⟨_, _, _, rfl, uw_FU, by decide, Or.inl (wt2 4 rfl rfl)⟩
theorem fg_FU_19 : FG "FeatureUnions" 19 0 1 := ⟨_, _, _, rfl, uw_FU, by decide, Or.inl (wt2 5 rfl rfl)⟩
theorem fg_FU_26 : FG "FeatureUnions" 26 0 2 := ⟨_, _, _, rfl, uw_FU, by decide, Or.inl (wt2 6 rfl rfl)⟩
theorem fg_FU_33 : FG "FeatureUnions" 33 0 3 := ⟨_, _, _, rfl, uw_FU, by decide, Or.inl (wt2 7 rfl rfl)⟩
theorem fg_FU_42 : FG "FeatureUnions" 42 0 4 := ⟨_, _, _, rfl, uw_FU, by decide, Or.inl (wt2 8 rfl rfl)⟩
theorem fg_FU_51 : FG "FeatureUnions" 51 0 5 := ⟨_, _, _, rfl, uw_FU, by decide, Or.inl (wt2 9 rfl rfl)⟩
theorem fg_FU_55 : FG "FeatureUnions" 55 0 6 := ⟨_, _, _, rfl, uw_FU, by decide, Or.inl (wt2 10 rfl rfl)⟩
theorem fg_FU_63 : FG "FeatureUnions" 63 0 7 := ⟨_, _, _, rfl, uw_FU, by decide, Or.inl (wt2 11 rfl rfl)⟩
theorem fg_FU_67 : FG "FeatureUnions" 67 0 8 := ⟨_, _, _, rfl, uw_FU, by decide, Or.inl (wt2 12 rfl rfl)⟩
theorem fg_FU_71 : FG "FeatureUnions" 71 0 9 := ⟨_, _, _, rfl, uw_FU, by decide, Or.inl (wt2 13 rfl rfl)⟩
theorem fp_FU_71 : FPo "FeatureUnions" 71 0 9 .int := ⟨_, _, _, ty_FU, rfl, uw_FU, to_FU, nm_FU, by decide, Or.inl (wt2 13 rfl rfl), rfl, rfl⟩
theorem fg_FU_75 : FG "FeatureUnions" 75 0 10 := ⟨_, _, _, rfl, uw_FU, by decide, Or.inl (wt2 14 rfl rfl)⟩
theorem fp_FU_75 : FPo "FeatureUnions" 75 0 10 .boolean := ⟨_, _, _, ty_FU, rfl, uw_FU, to_FU, nm_FU, by decide, Or.inl (wt2 14 rfl rfl), rfl, rfl⟩
theorem fg_FU_79 : FG "FeatureUnions" 79 1 0 := ⟨_, _, _, rfl, uw_Packs, by decide, Or.inl (wt1 26 rfl rfl)⟩
theorem fg_FU_102 : FG "FeatureUnions" 102 2 0 := ⟨_, _, _, rfl, uw_Feats, by decide, Or.inl (wt1 54 rfl rfl)⟩
theorem fg_FU_106 : FG "FeatureUnions" 106 1 1 := ⟨_, _, _, rfl, uw_Packs, by decide, Or.inl (wt1 30 rfl rfl)⟩
theorem fg_FU_116 : FG "FeatureUnions" 116 3 0 := ⟨_, _, _, rfl, uw_Users, by decide, Or.inl (wt1 85 rfl rfl)⟩
theorem fg_FU_121 : FG "FeatureUnions" 121 3 2 := ⟨_, _, _, rfl, uw_Users, by decide, Or.inl (wt1 91 rfl rfl)⟩
theorem fg_FU_124 : FG "FeatureUnions" 124 3 4 := ⟨_, _, _, rfl, uw_Users, by decide, Or.inl (wt1 97 rfl rfl)⟩
theorem fg_FU_128 : FG "FeatureUnions" 128 4 0 := ⟨_, _, _, rfl, uw_Turns, by decide, Or.inl (wt1 129 rfl rfl)⟩
theorem fg_FU_129 : FG "FeatureUnions" 129 2 1 := ⟨_, _, _, rfl, uw_Feats, by decide, Or.inl (wt1 58 rfl rfl)⟩
theorem fg_FU_132 : FG "FeatureUnions" 132 3 1 := ⟨_, _, _, rfl, uw_Users, by decide, Or.inl (wt1 87 rfl rfl)⟩
theorem fg_FU_135 : FG "FeatureUnions" 135 3 7 := ⟨_, _, _, rfl, uw_Users, by decide, Or.inl (wt1 102 rfl rfl)⟩
theorem fg_FU_173 : FG "FeatureUnions" 173 5 11 := ⟨_, _, _, rfl, uw_Snap, by decide, Or.inl (wt1 186 rfl rfl)⟩
theorem fg_Clo_9 : FG "FeatureUnions$Closure" 9 6 1 := ⟨_, _, _, rfl, uw_Clo, by decide, Or.inl (wt1 219 rfl rfl)⟩
theorem fg_Clo_15 : FG "FeatureUnions$Closure" 15 6 2 := ⟨_, _, _, rfl, uw_Clo, by decide, Or.inl (wt1 220 rfl rfl)⟩
theorem fg_Clo_18 : FG "FeatureUnions$Closure" 18 6 3 := ⟨_, _, _, rfl, uw_Clo, by decide, Or.inl (wt1 221 rfl rfl)⟩
theorem fp_Clo_18 : FPo "FeatureUnions$Closure" 18 6 3 .int := ⟨_, _, _, ty_Clo, rfl, uw_Clo, to_Clo, nm_Clo, by decide, Or.inl (wt1 221 rfl rfl), rfl, rfl⟩
theorem fg_Clo_22 : FG "FeatureUnions$Closure" 22 6 0 := ⟨_, _, _, rfl, uw_Clo, by decide, Or.inl (wt1 218 rfl rfl)⟩
theorem fg_Clo_26 : FG "FeatureUnions$Closure" 26 5 7 := ⟨_, _, _, rfl, uw_Snap, by decide, Or.inl (wt1 176 rfl rfl)⟩
theorem fg_Clo_31 : FG "FeatureUnions$Closure" 31 5 5 := ⟨_, _, _, rfl, uw_Snap, by decide, Or.inl (wt1 173 rfl rfl)⟩
theorem fg_Clo_55 : FG "FeatureUnions$Closure" 55 5 9 := ⟨_, _, _, rfl, uw_Snap, by decide, Or.inl (wt1 181 rfl rfl)⟩
theorem fg_Clo_58 : FG "FeatureUnions$Closure" 58 5 2 := ⟨_, _, _, rfl, uw_Snap, by decide, Or.inl (wt1 167 rfl rfl)⟩
theorem fg_Clo_62 : FG "FeatureUnions$Closure" 62 3 1 := ⟨_, _, _, rfl, uw_Users, by decide, Or.inl (wt1 88 rfl rfl)⟩
theorem fg_Clo_67 : FG "FeatureUnions$Closure" 67 3 7 := ⟨_, _, _, rfl, uw_Users, by decide, Or.inl (wt1 103 rfl rfl)⟩
theorem fg_Clo_74 : FG "FeatureUnions$Closure" 74 5 8 := ⟨_, _, _, rfl, uw_Snap, by decide, Or.inl (wt1 178 rfl rfl)⟩
theorem fg_Clo_77 : FG "FeatureUnions$Closure" 77 5 1 := ⟨_, _, _, rfl, uw_Snap, by decide, Or.inl (wt1 164 rfl rfl)⟩
theorem fg_Clo_81 : FG "FeatureUnions$Closure" 81 2 1 := ⟨_, _, _, rfl, uw_Feats, by decide, Or.inl (wt1 59 rfl rfl)⟩
theorem fg_Clo_90 : FG "FeatureUnions$Closure" 90 5 0 := ⟨_, _, _, rfl, uw_Snap, by decide, Or.inl (wt1 161 rfl rfl)⟩
theorem fg_Clo_94 : FG "FeatureUnions$Closure" 94 1 3 := ⟨_, _, _, rfl, uw_Packs, by decide, Or.inl (wt1 35 rfl rfl)⟩
theorem fg_Clo_112 : FG "FeatureUnions$Closure" 112 3 2 := ⟨_, _, _, rfl, uw_Users, by decide, Or.inl (wt1 92 rfl rfl)⟩
theorem fg_Clo_121 : FG "FeatureUnions$Closure" 121 5 10 := ⟨_, _, _, rfl, uw_Snap, by decide, Or.inl (wt1 184 rfl rfl)⟩
theorem fg_Clo_124 : FG "FeatureUnions$Closure" 124 5 3 := ⟨_, _, _, rfl, uw_Snap, by decide, Or.inl (wt1 170 rfl rfl)⟩
theorem fg_Clo_128 : FG "FeatureUnions$Closure" 128 4 2 := ⟨_, _, _, rfl, uw_Turns, by decide, Or.inl (wt1 135 rfl rfl)⟩
theorem fg_Clo_133 : FG "FeatureUnions$Closure" 133 4 3 := ⟨_, _, _, rfl, uw_Turns, by decide, Or.inl (wt1 138 rfl rfl)⟩
theorem fg_Clo_136 : FG "FeatureUnions$Closure" 136 4 1 := ⟨_, _, _, rfl, uw_Turns, by decide, Or.inl (wt1 132 rfl rfl)⟩
theorem fg_Clo_139 : FG "FeatureUnions$Closure" 139 4 4 := ⟨_, _, _, rfl, uw_Turns, by decide, Or.inl (wt1 141 rfl rfl)⟩
theorem fg_Feats_9 : FG "FeatureUnions$Features" 9 2 0 := ⟨_, _, _, rfl, uw_Feats, by decide, Or.inl (wt1 52 rfl rfl)⟩
theorem fp_Feats_9 : FPo "FeatureUnions$Features" 9 2 0 .int := ⟨_, _, _, ty_Feats, rfl, uw_Feats, to_Feats, nm_Feats, by decide, Or.inl (wt1 52 rfl rfl), rfl, rfl⟩
theorem fg_Feats_15 : FG "FeatureUnions$Features" 15 2 1 := ⟨_, _, _, rfl, uw_Feats, by decide, Or.inl (wt1 55 rfl rfl)⟩
theorem fg_Feats_19 : FG "FeatureUnions$Features" 19 2 2 := ⟨_, _, _, rfl, uw_Feats, by decide, Or.inl (wt1 60 rfl rfl)⟩
theorem fg_Feats_22 : FG "FeatureUnions$Features" 22 2 3 := ⟨_, _, _, rfl, uw_Feats, by decide, Or.inl (wt1 62 rfl rfl)⟩
theorem fg_Feats_25 : FG "FeatureUnions$Features" 25 2 4 := ⟨_, _, _, rfl, uw_Feats, by decide, Or.inl (wt1 63 rfl rfl)⟩
theorem fg_Packs_9 : FG "FeatureUnions$Packs" 9 1 0 := ⟨_, _, _, rfl, uw_Packs, by decide, Or.inl (wt1 25 rfl rfl)⟩
theorem fp_Packs_9 : FPo "FeatureUnions$Packs" 9 1 0 .int := ⟨_, _, _, ty_Packs, rfl, uw_Packs, to_Packs, nm_Packs, by decide, Or.inl (wt1 25 rfl rfl), rfl, rfl⟩
theorem fg_Packs_15 : FG "FeatureUnions$Packs" 15 1 1 := ⟨_, _, _, rfl, uw_Packs, by decide, Or.inl (wt1 28 rfl rfl)⟩
theorem fp_Packs_15 : FPo "FeatureUnions$Packs" 15 1 1 .int := ⟨_, _, _, ty_Packs, rfl, uw_Packs, to_Packs, nm_Packs, by decide, Or.inl (wt1 28 rfl rfl), rfl, rfl⟩
theorem fg_Packs_18 : FG "FeatureUnions$Packs" 18 1 2 := ⟨_, _, _, rfl, uw_Packs, by decide, Or.inl (wt1 31 rfl rfl)⟩
theorem fp_Packs_18 : FPo "FeatureUnions$Packs" 18 1 2 .int := ⟨_, _, _, ty_Packs, rfl, uw_Packs, to_Packs, nm_Packs, by decide, Or.inl (wt1 31 rfl rfl), rfl, rfl⟩
theorem fg_Packs_21 : FG "FeatureUnions$Packs" 21 1 3 := ⟨_, _, _, rfl, uw_Packs, by decide, Or.inl (wt1 33 rfl rfl)⟩
theorem fg_Reas_9 : FG "FeatureUnions$Reasons" 9 7 0 := ⟨_, _, _, rfl, uw_Reas, by decide, Or.inl (wt1 237 rfl rfl)⟩
theorem fg_Reas_15 : FG "FeatureUnions$Reasons" 15 7 1 := ⟨_, _, _, rfl, uw_Reas, by decide, Or.inl (wt1 238 rfl rfl)⟩
theorem fg_Reas_36 : FG "FeatureUnions$Reasons" 36 5 1 := ⟨_, _, _, rfl, uw_Snap, by decide, Or.inl (wt1 163 rfl rfl)⟩
theorem fg_Reas_42 : FG "FeatureUnions$Reasons" 42 2 1 := ⟨_, _, _, rfl, uw_Feats, by decide, Or.inl (wt1 57 rfl rfl)⟩
theorem fg_Reas_58 : FG "FeatureUnions$Reasons" 58 5 9 := ⟨_, _, _, rfl, uw_Snap, by decide, Or.inl (wt1 180 rfl rfl)⟩
theorem fg_Reas_65 : FG "FeatureUnions$Reasons" 65 5 2 := ⟨_, _, _, rfl, uw_Snap, by decide, Or.inl (wt1 166 rfl rfl)⟩
theorem fg_Reas_81 : FG "FeatureUnions$Reasons" 81 5 10 := ⟨_, _, _, rfl, uw_Snap, by decide, Or.inl (wt1 183 rfl rfl)⟩
theorem fg_Reas_84 : FG "FeatureUnions$Reasons" 84 5 3 := ⟨_, _, _, rfl, uw_Snap, by decide, Or.inl (wt1 169 rfl rfl)⟩
theorem fg_Reas_88 : FG "FeatureUnions$Reasons" 88 4 4 := ⟨_, _, _, rfl, uw_Turns, by decide, Or.inl (wt1 140 rfl rfl)⟩
theorem fg_Reas_93 : FG "FeatureUnions$Reasons" 93 4 1 := ⟨_, _, _, rfl, uw_Turns, by decide, Or.inl (wt1 131 rfl rfl)⟩
theorem fg_Reas_99 : FG "FeatureUnions$Reasons" 99 4 2 := ⟨_, _, _, rfl, uw_Turns, by decide, Or.inl (wt1 134 rfl rfl)⟩
theorem fg_Reas_102 : FG "FeatureUnions$Reasons" 102 4 3 := ⟨_, _, _, rfl, uw_Turns, by decide, Or.inl (wt1 137 rfl rfl)⟩
theorem fg_Reas_108 : FG "FeatureUnions$Reasons" 108 5 0 := ⟨_, _, _, rfl, uw_Snap, by decide, Or.inl (wt1 160 rfl rfl)⟩
theorem fg_Reas_112 : FG "FeatureUnions$Reasons" 112 1 3 := ⟨_, _, _, rfl, uw_Packs, by decide, Or.inl (wt1 34 rfl rfl)⟩
theorem fg_Snap_9 : FG "FeatureUnions$Snapshot" 9 5 4 := ⟨_, _, _, rfl, uw_Snap, by decide, Or.inl (wt1 171 rfl rfl)⟩
theorem fp_Snap_9 : FPo "FeatureUnions$Snapshot" 9 5 4 .int := ⟨_, _, _, ty_Snap, rfl, uw_Snap, to_Snap, nm_Snap, by decide, Or.inl (wt1 171 rfl rfl), rfl, rfl⟩
theorem fp_Snap_15 : FPo "FeatureUnions$Snapshot" 15 5 5 .int := ⟨_, _, _, ty_Snap, rfl, uw_Snap, to_Snap, nm_Snap, by decide, Or.inl (wt1 172 rfl rfl), rfl, rfl⟩
theorem fg_Snap_18 : FG "FeatureUnions$Snapshot" 18 5 6 := ⟨_, _, _, rfl, uw_Snap, by decide, Or.inl (wt1 174 rfl rfl)⟩
theorem fp_Snap_18 : FPo "FeatureUnions$Snapshot" 18 5 6 .int := ⟨_, _, _, ty_Snap, rfl, uw_Snap, to_Snap, nm_Snap, by decide, Or.inl (wt1 174 rfl rfl), rfl, rfl⟩
theorem fp_Snap_21 : FPo "FeatureUnions$Snapshot" 21 5 7 .int := ⟨_, _, _, ty_Snap, rfl, uw_Snap, to_Snap, nm_Snap, by decide, Or.inl (wt1 175 rfl rfl), rfl, rfl⟩
theorem fp_Snap_24 : FPo "FeatureUnions$Snapshot" 24 5 8 .int := ⟨_, _, _, ty_Snap, rfl, uw_Snap, to_Snap, nm_Snap, by decide, Or.inl (wt1 177 rfl rfl), rfl, rfl⟩
theorem fp_Snap_27 : FPo "FeatureUnions$Snapshot" 27 5 9 .int := ⟨_, _, _, ty_Snap, rfl, uw_Snap, to_Snap, nm_Snap, by decide, Or.inl (wt1 179 rfl rfl), rfl, rfl⟩
theorem fp_Snap_30 : FPo "FeatureUnions$Snapshot" 30 5 10 .int := ⟨_, _, _, ty_Snap, rfl, uw_Snap, to_Snap, nm_Snap, by decide, Or.inl (wt1 182 rfl rfl), rfl, rfl⟩
theorem fg_Snap_33 : FG "FeatureUnions$Snapshot" 33 5 11 := ⟨_, _, _, rfl, uw_Snap, by decide, Or.inl (wt1 185 rfl rfl)⟩
theorem fg_Snap_37 : FG "FeatureUnions$Snapshot" 37 5 0 := ⟨_, _, _, rfl, uw_Snap, by decide, Or.inl (wt1 159 rfl rfl)⟩
theorem fg_Snap_41 : FG "FeatureUnions$Snapshot" 41 5 1 := ⟨_, _, _, rfl, uw_Snap, by decide, Or.inl (wt1 162 rfl rfl)⟩
theorem fg_Snap_45 : FG "FeatureUnions$Snapshot" 45 5 2 := ⟨_, _, _, rfl, uw_Snap, by decide, Or.inl (wt1 165 rfl rfl)⟩
theorem fg_Snap_49 : FG "FeatureUnions$Snapshot" 49 5 3 := ⟨_, _, _, rfl, uw_Snap, by decide, Or.inl (wt1 168 rfl rfl)⟩
theorem fg_Snap_53 : FG "FeatureUnions$Snapshot" 53 1 1 := ⟨_, _, _, rfl, uw_Packs, by decide, Or.inl (wt1 29 rfl rfl)⟩
theorem fg_Snap_56 : FG "FeatureUnions$Snapshot" 56 1 2 := ⟨_, _, _, rfl, uw_Packs, by decide, Or.inl (wt1 32 rfl rfl)⟩
theorem fg_Snap_57 : FG "FeatureUnions$Snapshot" 57 1 0 := ⟨_, _, _, rfl, uw_Packs, by decide, Or.inl (wt1 27 rfl rfl)⟩
theorem fg_Snap_60 : FG "FeatureUnions$Snapshot" 60 2 0 := ⟨_, _, _, rfl, uw_Feats, by decide, Or.inl (wt1 53 rfl rfl)⟩
theorem fg_Snap_63 : FG "FeatureUnions$Snapshot" 63 3 0 := ⟨_, _, _, rfl, uw_Users, by decide, Or.inl (wt1 84 rfl rfl)⟩
theorem fg_Snap_66 : FG "FeatureUnions$Snapshot" 66 4 0 := ⟨_, _, _, rfl, uw_Turns, by decide, Or.inl (wt1 128 rfl rfl)⟩
theorem fg_Snap_69 : FG "FeatureUnions$Snapshot" 69 3 4 := ⟨_, _, _, rfl, uw_Users, by decide, Or.inl (wt1 96 rfl rfl)⟩
theorem fg_Snap_76 : FG "FeatureUnions$Snapshot" 76 3 3 := ⟨_, _, _, rfl, uw_Users, by decide, Or.inl (wt1 94 rfl rfl)⟩
theorem fg_Snap_83 : FG "FeatureUnions$Snapshot" 83 2 1 := ⟨_, _, _, rfl, uw_Feats, by decide, Or.inl (wt1 56 rfl rfl)⟩
theorem fg_Snap_86 : FG "FeatureUnions$Snapshot" 86 3 2 := ⟨_, _, _, rfl, uw_Users, by decide, Or.inl (wt1 90 rfl rfl)⟩
theorem fg_Snap_89 : FG "FeatureUnions$Snapshot" 89 2 2 := ⟨_, _, _, rfl, uw_Feats, by decide, Or.inl (wt1 61 rfl rfl)⟩
theorem fg_Snap_92 : FG "FeatureUnions$Snapshot" 92 3 5 := ⟨_, _, _, rfl, uw_Users, by decide, Or.inl (wt1 99 rfl rfl)⟩
theorem fg_Snap_96 : FG "FeatureUnions$Snapshot" 96 2 4 := ⟨_, _, _, rfl, uw_Feats, by decide, Or.inl (wt1 64 rfl rfl)⟩
theorem fg_Turns_9 : FG "FeatureUnions$Turns" 9 4 0 := ⟨_, _, _, rfl, uw_Turns, by decide, Or.inl (wt1 127 rfl rfl)⟩
theorem fp_Turns_9 : FPo "FeatureUnions$Turns" 9 4 0 .int := ⟨_, _, _, ty_Turns, rfl, uw_Turns, to_Turns, nm_Turns, by decide, Or.inl (wt1 127 rfl rfl), rfl, rfl⟩
theorem fg_Turns_15 : FG "FeatureUnions$Turns" 15 4 1 := ⟨_, _, _, rfl, uw_Turns, by decide, Or.inl (wt1 130 rfl rfl)⟩
theorem fg_Turns_19 : FG "FeatureUnions$Turns" 19 4 2 := ⟨_, _, _, rfl, uw_Turns, by decide, Or.inl (wt1 133 rfl rfl)⟩
theorem fg_Turns_22 : FG "FeatureUnions$Turns" 22 4 3 := ⟨_, _, _, rfl, uw_Turns, by decide, Or.inl (wt1 136 rfl rfl)⟩
theorem fg_Turns_25 : FG "FeatureUnions$Turns" 25 4 4 := ⟨_, _, _, rfl, uw_Turns, by decide, Or.inl (wt1 139 rfl rfl)⟩
theorem fg_Users_9 : FG "FeatureUnions$Users" 9 3 0 := ⟨_, _, _, rfl, uw_Users, by decide, Or.inl (wt1 83 rfl rfl)⟩
theorem fp_Users_9 : FPo "FeatureUnions$Users" 9 3 0 .int := ⟨_, _, _, ty_Users, rfl, uw_Users, to_Users, nm_Users, by decide, Or.inl (wt1 83 rfl rfl), rfl, rfl⟩
theorem fg_Users_15 : FG "FeatureUnions$Users" 15 3 1 := ⟨_, _, _, rfl, uw_Users, by decide, Or.inl (wt1 86 rfl rfl)⟩
theorem fg_Users_19 : FG "FeatureUnions$Users" 19 3 2 := ⟨_, _, _, rfl, uw_Users, by decide, Or.inl (wt1 89 rfl rfl)⟩
theorem fg_Users_22 : FG "FeatureUnions$Users" 22 3 3 := ⟨_, _, _, rfl, uw_Users, by decide, Or.inl (wt1 93 rfl rfl)⟩
theorem fg_Users_28 : FG "FeatureUnions$Users" 28 3 5 := ⟨_, _, _, rfl, uw_Users, by decide, Or.inl (wt1 98 rfl rfl)⟩
theorem fg_Users_32 : FG "FeatureUnions$Users" 32 3 6 := ⟨_, _, _, rfl, uw_Users, by decide, Or.inl (wt1 100 rfl rfl)⟩
theorem fg_Users_35 : FG "FeatureUnions$Users" 35 3 7 := ⟨_, _, _, rfl, uw_Users, by decide, Or.inl (wt1 101 rfl rfl)⟩
theorem fg_Mod_7 : FG "FeatureUnionsModel" 7 8 6 := ⟨_, _, _, rfl, uw_Mod, by decide, Or.inl (wt3 55 rfl rfl)⟩
theorem fg_Mod_13 : FG "FeatureUnionsModel" 13 8 7 := ⟨_, _, _, rfl, uw_Mod, by decide, Or.inl (wt3 56 rfl rfl)⟩
theorem fg_Mod_16 : FG "FeatureUnionsModel" 16 8 8 := ⟨_, _, _, rfl, uw_Mod, by decide, Or.inl (wt3 57 rfl rfl)⟩
theorem fg_Mod_19 : FG "FeatureUnionsModel" 19 8 9 := ⟨_, _, _, rfl, uw_Mod, by decide, Or.inl (wt3 58 rfl rfl)⟩
theorem fg_Mod_23 : FG "FeatureUnionsModel" 23 8 10 := ⟨_, _, _, rfl, uw_Mod, by decide, Or.inl (wt3 59 rfl rfl)⟩
theorem fg_Mod_26 : FG "FeatureUnionsModel" 26 8 11 := ⟨_, _, _, rfl, uw_Mod, by decide, Or.inl (wt3 60 rfl rfl)⟩
theorem fg_Mod_29 : FG "FeatureUnionsModel" 29 8 12 := ⟨_, _, _, rfl, uw_Mod, by decide, Or.inl (wt3 61 rfl rfl)⟩
theorem fg_Mod_32 : FG "FeatureUnionsModel" 32 8 13 := ⟨_, _, _, rfl, uw_Mod, by decide, Or.inl (wt3 62 rfl rfl)⟩
theorem fg_Mod_35 : FG "FeatureUnionsModel" 35 8 14 := ⟨_, _, _, rfl, uw_Mod, by decide, Or.inl (wt3 63 rfl rfl)⟩
theorem fg_Mod_38 : FG "FeatureUnionsModel" 38 8 15 := ⟨_, _, _, rfl, uw_Mod, by decide, Or.inl (wt3 64 rfl rfl)⟩
theorem fg_Mod_41 : FG "FeatureUnionsModel" 41 8 16 := ⟨_, _, _, rfl, uw_Mod, by decide, Or.inl (wt3 65 rfl rfl)⟩
theorem fg_Mod_44 : FG "FeatureUnionsModel" 44 8 17 := ⟨_, _, _, rfl, uw_Mod, by decide, Or.inl (wt3 66 rfl rfl)⟩
theorem fg_Mod_47 : FG "FeatureUnionsModel" 47 8 18 := ⟨_, _, _, rfl, uw_Mod, by decide, Or.inl (wt3 67 rfl rfl)⟩
theorem fg_Mod_50 : FG "FeatureUnionsModel" 50 8 19 := ⟨_, _, _, rfl, uw_Mod, by decide, Or.inl (wt3 68 rfl rfl)⟩
theorem fg_Mod_53 : FG "FeatureUnionsModel" 53 8 20 := ⟨_, _, _, rfl, uw_Mod, by decide, Or.inl (wt3 69 rfl rfl)⟩
theorem fg_Mod_56 : FG "FeatureUnionsModel" 56 8 21 := ⟨_, _, _, rfl, uw_Mod, by decide, Or.inl (wt3 70 rfl rfl)⟩
theorem fg_Mod_59 : FG "FeatureUnionsModel" 59 8 22 := ⟨_, _, _, rfl, uw_Mod, by decide, Or.inl (wt3 71 rfl rfl)⟩
theorem fg_Mod_62 : FG "FeatureUnionsModel" 62 8 23 := ⟨_, _, _, rfl, uw_Mod, by decide, Or.inl (wt3 72 rfl rfl)⟩
theorem fg_Mod_65 : FG "FeatureUnionsModel" 65 8 24 := ⟨_, _, _, rfl, uw_Mod, by decide, Or.inl (wt3 73 rfl rfl)⟩
theorem fg_Mod_68 : FG "FeatureUnionsModel" 68 8 31 := ⟨_, _, _, rfl, uw_Mod, by decide, Or.inl (wt3 80 rfl rfl)⟩
theorem fg_Mod_71 : FG "FeatureUnionsModel" 71 8 34 := ⟨_, _, _, rfl, uw_Mod, by decide, Or.inl (wt3 83 rfl rfl)⟩
theorem fg_Mod_74 : FG "FeatureUnionsModel" 74 8 35 := ⟨_, _, _, rfl, uw_Mod, by decide, Or.inl (wt3 84 rfl rfl)⟩
theorem fg_Mod_77 : FG "FeatureUnionsModel" 77 8 36 := ⟨_, _, _, rfl, uw_Mod, by decide, Or.inl (wt3 85 rfl rfl)⟩
theorem fg_Mod_80 : FG "FeatureUnionsModel" 80 8 37 := ⟨_, _, _, rfl, uw_Mod, by decide, Or.inl (wt3 86 rfl rfl)⟩
theorem fg_Mod_83 : FG "FeatureUnionsModel" 83 8 38 := ⟨_, _, _, rfl, uw_Mod, by decide, Or.inl (wt3 87 rfl rfl)⟩
theorem fg_Mod_86 : FG "FeatureUnionsModel" 86 8 39 := ⟨_, _, _, rfl, uw_Mod, by decide, Or.inl (wt3 88 rfl rfl)⟩
theorem fg_Mod_89 : FG "FeatureUnionsModel" 89 8 40 := ⟨_, _, _, rfl, uw_Mod, by decide, Or.inl (wt3 89 rfl rfl)⟩
theorem fp_Mod_89 : FPo "FeatureUnionsModel" 89 8 40 .int := ⟨_, _, _, ty_Mod, rfl, uw_Mod, to_Mod, nm_Mod, by decide, Or.inl (wt3 89 rfl rfl), rfl, rfl⟩
theorem fg_Mod_93 : FG "FeatureUnionsModel" 93 8 41 := ⟨_, _, _, rfl, uw_Mod, by decide, Or.inl (wt3 90 rfl rfl)⟩
theorem fg_Mod_96 : FG "FeatureUnionsModel" 96 8 43 := ⟨_, _, _, rfl, uw_Mod, by decide, Or.inl (wt3 92 rfl rfl)⟩
theorem fg_Mod_99 : FG "FeatureUnionsModel" 99 8 44 := ⟨_, _, _, rfl, uw_Mod, by decide, Or.inl (wt3 93 rfl rfl)⟩
theorem fp_Mod_102 : FPo "FeatureUnionsModel" 102 8 0 .int := ⟨_, _, _, ty_Mod, rfl, uw_Mod, to_Mod, nm_Mod, by decide, Or.inl (wt3 49 rfl rfl), rfl, rfl⟩
theorem fg_Mod_105 : FG "FeatureUnionsModel" 105 8 1 := ⟨_, _, _, rfl, uw_Mod, by decide, Or.inl (wt3 50 rfl rfl)⟩
theorem fp_Mod_105 : FPo "FeatureUnionsModel" 105 8 1 .int := ⟨_, _, _, ty_Mod, rfl, uw_Mod, to_Mod, nm_Mod, by decide, Or.inl (wt3 50 rfl rfl), rfl, rfl⟩
theorem fg_Mod_108 : FG "FeatureUnionsModel" 108 8 3 := ⟨_, _, _, rfl, uw_Mod, by decide, Or.inl (wt3 52 rfl rfl)⟩
theorem fp_Mod_108 : FPo "FeatureUnionsModel" 108 8 3 .int := ⟨_, _, _, ty_Mod, rfl, uw_Mod, to_Mod, nm_Mod, by decide, Or.inl (wt3 52 rfl rfl), rfl, rfl⟩
theorem fg_Mod_111 : FG "FeatureUnionsModel" 111 8 2 := ⟨_, _, _, rfl, uw_Mod, by decide, Or.inl (wt3 51 rfl rfl)⟩
theorem fp_Mod_111 : FPo "FeatureUnionsModel" 111 8 2 .int := ⟨_, _, _, ty_Mod, rfl, uw_Mod, to_Mod, nm_Mod, by decide, Or.inl (wt3 51 rfl rfl), rfl, rfl⟩
theorem fg_Mod_114 : FG "FeatureUnionsModel" 114 8 33 := ⟨_, _, _, rfl, uw_Mod, by decide, Or.inl (wt3 82 rfl rfl)⟩
theorem fp_Mod_114 : FPo "FeatureUnionsModel" 114 8 33 .boolean := ⟨_, _, _, ty_Mod, rfl, uw_Mod, to_Mod, nm_Mod, by decide, Or.inl (wt3 82 rfl rfl), rfl, rfl⟩
theorem fg_Mod_133 : FG "FeatureUnionsModel" 133 8 4 := ⟨_, _, _, rfl, uw_Mod, by decide, Or.inl (wt3 53 rfl rfl)⟩
theorem fp_Mod_133 : FPo "FeatureUnionsModel" 133 8 4 .int := ⟨_, _, _, ty_Mod, rfl, uw_Mod, to_Mod, nm_Mod, by decide, Or.inl (wt3 53 rfl rfl), rfl, rfl⟩
theorem fg_Mod_143 : FG "FeatureUnionsModel" 143 8 5 := ⟨_, _, _, rfl, uw_Mod, by decide, Or.inl (wt3 54 rfl rfl)⟩
theorem fp_Mod_143 : FPo "FeatureUnionsModel" 143 8 5 .int := ⟨_, _, _, ty_Mod, rfl, uw_Mod, to_Mod, nm_Mod, by decide, Or.inl (wt3 54 rfl rfl), rfl, rfl⟩
theorem fg_Mod_146 : FG "FeatureUnionsModel" 146 8 30 := ⟨_, _, _, rfl, uw_Mod, by decide, Or.inl (wt3 79 rfl rfl)⟩
theorem fp_Mod_146 : FPo "FeatureUnionsModel" 146 8 30 .int := ⟨_, _, _, ty_Mod, rfl, uw_Mod, to_Mod, nm_Mod, by decide, Or.inl (wt3 79 rfl rfl), rfl, rfl⟩
theorem fg_Mod_149 : FG "FeatureUnionsModel" 149 8 27 := ⟨_, _, _, rfl, uw_Mod, by decide, Or.inl (wt3 76 rfl rfl)⟩
theorem fp_Mod_149 : FPo "FeatureUnionsModel" 149 8 27 .int := ⟨_, _, _, ty_Mod, rfl, uw_Mod, to_Mod, nm_Mod, by decide, Or.inl (wt3 76 rfl rfl), rfl, rfl⟩
theorem fg_Mod_162 : FG "FeatureUnionsModel" 162 8 29 := ⟨_, _, _, rfl, uw_Mod, by decide, Or.inl (wt3 78 rfl rfl)⟩
theorem fp_Mod_162 : FPo "FeatureUnionsModel" 162 8 29 .int := ⟨_, _, _, ty_Mod, rfl, uw_Mod, to_Mod, nm_Mod, by decide, Or.inl (wt3 78 rfl rfl), rfl, rfl⟩
theorem fg_Mod_165 : FG "FeatureUnionsModel" 165 8 45 := ⟨_, _, _, rfl, uw_Mod, by decide, Or.inl (wt3 94 rfl rfl)⟩
theorem fp_Mod_165 : FPo "FeatureUnionsModel" 165 8 45 .int := ⟨_, _, _, ty_Mod, rfl, uw_Mod, to_Mod, nm_Mod, by decide, Or.inl (wt3 94 rfl rfl), rfl, rfl⟩
theorem fg_Mod_172 : FG "FeatureUnionsModel" 172 8 28 := ⟨_, _, _, rfl, uw_Mod, by decide, Or.inl (wt3 77 rfl rfl)⟩
theorem fp_Mod_172 : FPo "FeatureUnionsModel" 172 8 28 .int := ⟨_, _, _, ty_Mod, rfl, uw_Mod, to_Mod, nm_Mod, by decide, Or.inl (wt3 77 rfl rfl), rfl, rfl⟩
theorem fg_Mod_183 : FG "FeatureUnionsModel" 183 8 25 := ⟨_, _, _, rfl, uw_Mod, by decide, Or.inl (wt3 74 rfl rfl)⟩
theorem fp_Mod_183 : FPo "FeatureUnionsModel" 183 8 25 .int := ⟨_, _, _, ty_Mod, rfl, uw_Mod, to_Mod, nm_Mod, by decide, Or.inl (wt3 74 rfl rfl), rfl, rfl⟩
theorem fg_Mod_193 : FG "FeatureUnionsModel" 193 8 26 := ⟨_, _, _, rfl, uw_Mod, by decide, Or.inl (wt3 75 rfl rfl)⟩
theorem fp_Mod_193 : FPo "FeatureUnionsModel" 193 8 26 .int := ⟨_, _, _, ty_Mod, rfl, uw_Mod, to_Mod, nm_Mod, by decide, Or.inl (wt3 75 rfl rfl), rfl, rfl⟩
theorem fg_Mod_199 : FG "FeatureUnionsModel" 199 8 32 := ⟨_, _, _, rfl, uw_Mod, by decide, Or.inl (wt3 81 rfl rfl)⟩
theorem fp_Mod_199 : FPo "FeatureUnionsModel" 199 8 32 .boolean := ⟨_, _, _, ty_Mod, rfl, uw_Mod, to_Mod, nm_Mod, by decide, Or.inl (wt3 81 rfl rfl), rfl, rfl⟩
theorem fg_Mod_212 : FG "FeatureUnionsModel" 212 8 42 := ⟨_, _, _, rfl, uw_Mod, by decide, Or.inl (wt3 91 rfl rfl)⟩
theorem fp_Mod_212 : FPo "FeatureUnionsModel" 212 8 42 .int := ⟨_, _, _, ty_Mod, rfl, uw_Mod, to_Mod, nm_Mod, by decide, Or.inl (wt3 91 rfl rfl), rfl, rfl⟩
theorem fq_FU_12 : FP "FeatureUnions" 12 0 0 (ty_FU 0) true := ⟨_, _, _, ty_FU, rfl, uw_FU, to_FU, nm_FU, by decide, wt2 4 rfl rfl, rfl, rfl, by decide +kernel⟩
theorem fq_FU_19 : FP "FeatureUnions" 19 0 1 (ty_FU 1) true := ⟨_, _, _, ty_FU, rfl, uw_FU, to_FU, nm_FU, by decide, wt2 5 rfl rfl, rfl, rfl, by decide +kernel⟩
theorem fq_FU_26 : FP "FeatureUnions" 26 0 2 (ty_FU 2) true := ⟨_, _, _, ty_FU, rfl, uw_FU, to_FU, nm_FU, by decide, wt2 6 rfl rfl, rfl, rfl, by decide +kernel⟩
theorem fq_FU_33 : FP "FeatureUnions" 33 0 3 (ty_FU 3) true := ⟨_, _, _, ty_FU, rfl, uw_FU, to_FU, nm_FU, by decide, wt2 7 rfl rfl, rfl, rfl, by decide +kernel⟩
theorem fq_FU_42 : FP "FeatureUnions" 42 0 4 (ty_FU 4) true := ⟨_, _, _, ty_FU, rfl, uw_FU, to_FU, nm_FU, by decide, wt2 8 rfl rfl, rfl, rfl, by decide +kernel⟩
theorem fq_FU_51 : FP "FeatureUnions" 51 0 5 (ty_FU 5) true := ⟨_, _, _, ty_FU, rfl, uw_FU, to_FU, nm_FU, by decide, wt2 9 rfl rfl, rfl, rfl, by decide +kernel⟩
theorem fq_FU_55 : FP "FeatureUnions" 55 0 6 (ty_FU 6) true := ⟨_, _, _, ty_FU, rfl, uw_FU, to_FU, nm_FU, by decide, wt2 10 rfl rfl, rfl, rfl, by decide +kernel⟩
theorem fq_FU_63 : FP "FeatureUnions" 63 0 7 (ty_FU 7) true := ⟨_, _, _, ty_FU, rfl, uw_FU, to_FU, nm_FU, by decide, wt2 11 rfl rfl, rfl, rfl, by decide +kernel⟩
theorem fq_FU_67 : FP "FeatureUnions" 67 0 8 (ty_FU 8) true := ⟨_, _, _, ty_FU, rfl, uw_FU, to_FU, nm_FU, by decide, wt2 12 rfl rfl, rfl, rfl, by decide +kernel⟩
theorem fq_Clo_9 : FP "FeatureUnions$Closure" 9 6 1 (ty_Clo 1) true := ⟨_, _, _, ty_Clo, rfl, uw_Clo, to_Clo, nm_Clo, by decide, wt1 219 rfl rfl, rfl, rfl, by decide +kernel⟩
theorem fq_Clo_15 : FP "FeatureUnions$Closure" 15 6 2 (ty_Clo 2) true := ⟨_, _, _, ty_Clo, rfl, uw_Clo, to_Clo, nm_Clo, by decide, wt1 220 rfl rfl, rfl, rfl, by decide +kernel⟩
theorem fq_Clo_22 : FP "FeatureUnions$Closure" 22 6 0 (ty_Clo 0) true := ⟨_, _, _, ty_Clo, rfl, uw_Clo, to_Clo, nm_Clo, by decide, wt1 218 rfl rfl, rfl, rfl, by decide +kernel⟩
theorem fq_Feats_15 : FP "FeatureUnions$Features" 15 2 1 (ty_Feats 1) true := ⟨_, _, _, ty_Feats, rfl, uw_Feats, to_Feats, nm_Feats, by decide, wt1 55 rfl rfl, rfl, rfl, by decide +kernel⟩
theorem fq_Feats_19 : FP "FeatureUnions$Features" 19 2 2 (ty_Feats 2) true := ⟨_, _, _, ty_Feats, rfl, uw_Feats, to_Feats, nm_Feats, by decide, wt1 60 rfl rfl, rfl, rfl, by decide +kernel⟩
theorem fq_Feats_22 : FP "FeatureUnions$Features" 22 2 3 (ty_Feats 3) true := ⟨_, _, _, ty_Feats, rfl, uw_Feats, to_Feats, nm_Feats, by decide, wt1 62 rfl rfl, rfl, rfl, by decide +kernel⟩
theorem fq_Feats_25 : FP "FeatureUnions$Features" 25 2 4 (ty_Feats 4) true := ⟨_, _, _, ty_Feats, rfl, uw_Feats, to_Feats, nm_Feats, by decide, wt1 63 rfl rfl, rfl, rfl, by decide +kernel⟩
theorem fq_Packs_21 : FP "FeatureUnions$Packs" 21 1 3 (ty_Packs 3) true := ⟨_, _, _, ty_Packs, rfl, uw_Packs, to_Packs, nm_Packs, by decide, wt1 33 rfl rfl, rfl, rfl, by decide +kernel⟩
theorem fq_Reas_9 : FP "FeatureUnions$Reasons" 9 7 0 (ty_Reas 0) true := ⟨_, _, _, ty_Reas, rfl, uw_Reas, to_Reas, nm_Reas, by decide, wt1 237 rfl rfl, rfl, rfl, by decide +kernel⟩
theorem fq_Reas_15 : FP "FeatureUnions$Reasons" 15 7 1 (ty_Reas 1) true := ⟨_, _, _, ty_Reas, rfl, uw_Reas, to_Reas, nm_Reas, by decide, wt1 238 rfl rfl, rfl, rfl, by decide +kernel⟩
theorem fq_Snap_33 : FP "FeatureUnions$Snapshot" 33 5 11 (ty_Snap 11) true := ⟨_, _, _, ty_Snap, rfl, uw_Snap, to_Snap, nm_Snap, by decide, wt1 185 rfl rfl, rfl, rfl, by decide +kernel⟩
theorem fq_Snap_37 : FP "FeatureUnions$Snapshot" 37 5 0 (ty_Snap 0) true := ⟨_, _, _, ty_Snap, rfl, uw_Snap, to_Snap, nm_Snap, by decide, wt1 159 rfl rfl, rfl, rfl, by decide +kernel⟩
theorem fq_Snap_41 : FP "FeatureUnions$Snapshot" 41 5 1 (ty_Snap 1) true := ⟨_, _, _, ty_Snap, rfl, uw_Snap, to_Snap, nm_Snap, by decide, wt1 162 rfl rfl, rfl, rfl, by decide +kernel⟩
theorem fq_Snap_45 : FP "FeatureUnions$Snapshot" 45 5 2 (ty_Snap 2) true := ⟨_, _, _, ty_Snap, rfl, uw_Snap, to_Snap, nm_Snap, by decide, wt1 165 rfl rfl, rfl, rfl, by decide +kernel⟩
theorem fq_Snap_49 : FP "FeatureUnions$Snapshot" 49 5 3 (ty_Snap 3) true := ⟨_, _, _, ty_Snap, rfl, uw_Snap, to_Snap, nm_Snap, by decide, wt1 168 rfl rfl, rfl, rfl, by decide +kernel⟩
theorem fq_Turns_15 : FP "FeatureUnions$Turns" 15 4 1 (ty_Turns 1) true := ⟨_, _, _, ty_Turns, rfl, uw_Turns, to_Turns, nm_Turns, by decide, wt1 130 rfl rfl, rfl, rfl, by decide +kernel⟩
theorem fq_Turns_19 : FP "FeatureUnions$Turns" 19 4 2 (ty_Turns 2) true := ⟨_, _, _, ty_Turns, rfl, uw_Turns, to_Turns, nm_Turns, by decide, wt1 133 rfl rfl, rfl, rfl, by decide +kernel⟩
theorem fq_Turns_22 : FP "FeatureUnions$Turns" 22 4 3 (ty_Turns 3) true := ⟨_, _, _, ty_Turns, rfl, uw_Turns, to_Turns, nm_Turns, by decide, wt1 136 rfl rfl, rfl, rfl, by decide +kernel⟩
theorem fq_Turns_25 : FP "FeatureUnions$Turns" 25 4 4 (ty_Turns 4) true := ⟨_, _, _, ty_Turns, rfl, uw_Turns, to_Turns, nm_Turns, by decide, wt1 139 rfl rfl, rfl, rfl, by decide +kernel⟩
theorem fq_Users_15 : FP "FeatureUnions$Users" 15 3 1 (ty_Users 1) true := ⟨_, _, _, ty_Users, rfl, uw_Users, to_Users, nm_Users, by decide, wt1 86 rfl rfl, rfl, rfl, by decide +kernel⟩
theorem fq_Users_19 : FP "FeatureUnions$Users" 19 3 2 (ty_Users 2) true := ⟨_, _, _, ty_Users, rfl, uw_Users, to_Users, nm_Users, by decide, wt1 89 rfl rfl, rfl, rfl, by decide +kernel⟩
theorem fq_Users_22 : FP "FeatureUnions$Users" 22 3 3 (ty_Users 3) true := ⟨_, _, _, ty_Users, rfl, uw_Users, to_Users, nm_Users, by decide, wt1 93 rfl rfl, rfl, rfl, by decide +kernel⟩
theorem fq_Users_25 : FP "FeatureUnions$Users" 25 3 4 (ty_Users 4) true := ⟨_, _, _, ty_Users, rfl, uw_Users, to_Users, nm_Users, by decide, wt1 95 rfl rfl, rfl, rfl, by decide +kernel⟩
theorem fq_Users_28 : FP "FeatureUnions$Users" 28 3 5 (ty_Users 5) true := ⟨_, _, _, ty_Users, rfl, uw_Users, to_Users, nm_Users, by decide, wt1 98 rfl rfl, rfl, rfl, by decide +kernel⟩
theorem fq_Users_32 : FP "FeatureUnions$Users" 32 3 6 (ty_Users 6) true := ⟨_, _, _, ty_Users, rfl, uw_Users, to_Users, nm_Users, by decide, wt1 100 rfl rfl, rfl, rfl, by decide +kernel⟩
theorem fq_Users_35 : FP "FeatureUnions$Users" 35 3 7 (ty_Users 7) true := ⟨_, _, _, ty_Users, rfl, uw_Users, to_Users, nm_Users, by decide, wt1 101 rfl rfl, rfl, rfl, by decide +kernel⟩
theorem fq_Mod_7 : FP "FeatureUnionsModel" 7 8 6 (ty_Mod 6) true := ⟨_, _, _, ty_Mod, rfl, uw_Mod, to_Mod, nm_Mod, by decide, wt3 55 rfl rfl, rfl, rfl, by decide +kernel⟩
theorem fq_Mod_13 : FP "FeatureUnionsModel" 13 8 7 (ty_Mod 7) true := ⟨_, _, _, ty_Mod, rfl, uw_Mod, to_Mod, nm_Mod, by decide, wt3 56 rfl rfl, rfl, rfl, by decide +kernel⟩
theorem fq_Mod_16 : FP "FeatureUnionsModel" 16 8 8 (ty_Mod 8) true := ⟨_, _, _, ty_Mod, rfl, uw_Mod, to_Mod, nm_Mod, by decide, wt3 57 rfl rfl, rfl, rfl, by decide +kernel⟩
theorem fq_Mod_19 : FP "FeatureUnionsModel" 19 8 9 (ty_Mod 9) true := ⟨_, _, _, ty_Mod, rfl, uw_Mod, to_Mod, nm_Mod, by decide, wt3 58 rfl rfl, rfl, rfl, by decide +kernel⟩
theorem fq_Mod_23 : FP "FeatureUnionsModel" 23 8 10 (ty_Mod 10) true := ⟨_, _, _, ty_Mod, rfl, uw_Mod, to_Mod, nm_Mod, by decide, wt3 59 rfl rfl, rfl, rfl, by decide +kernel⟩
theorem fq_Mod_26 : FP "FeatureUnionsModel" 26 8 11 (ty_Mod 11) true := ⟨_, _, _, ty_Mod, rfl, uw_Mod, to_Mod, nm_Mod, by decide, wt3 60 rfl rfl, rfl, rfl, by decide +kernel⟩
theorem fq_Mod_29 : FP "FeatureUnionsModel" 29 8 12 (ty_Mod 12) true := ⟨_, _, _, ty_Mod, rfl, uw_Mod, to_Mod, nm_Mod, by decide, wt3 61 rfl rfl, rfl, rfl, by decide +kernel⟩
theorem fq_Mod_32 : FP "FeatureUnionsModel" 32 8 13 (ty_Mod 13) true := ⟨_, _, _, ty_Mod, rfl, uw_Mod, to_Mod, nm_Mod, by decide, wt3 62 rfl rfl, rfl, rfl, by decide +kernel⟩
theorem fq_Mod_35 : FP "FeatureUnionsModel" 35 8 14 (ty_Mod 14) true := ⟨_, _, _, ty_Mod, rfl, uw_Mod, to_Mod, nm_Mod, by decide, wt3 63 rfl rfl, rfl, rfl, by decide +kernel⟩
theorem fq_Mod_38 : FP "FeatureUnionsModel" 38 8 15 (ty_Mod 15) true := ⟨_, _, _, ty_Mod, rfl, uw_Mod, to_Mod, nm_Mod, by decide, wt3 64 rfl rfl, rfl, rfl, by decide +kernel⟩
theorem fq_Mod_41 : FP "FeatureUnionsModel" 41 8 16 (ty_Mod 16) true := ⟨_, _, _, ty_Mod, rfl, uw_Mod, to_Mod, nm_Mod, by decide, wt3 65 rfl rfl, rfl, rfl, by decide +kernel⟩
theorem fq_Mod_44 : FP "FeatureUnionsModel" 44 8 17 (ty_Mod 17) true := ⟨_, _, _, ty_Mod, rfl, uw_Mod, to_Mod, nm_Mod, by decide, wt3 66 rfl rfl, rfl, rfl, by decide +kernel⟩
theorem fq_Mod_47 : FP "FeatureUnionsModel" 47 8 18 (ty_Mod 18) true := ⟨_, _, _, ty_Mod, rfl, uw_Mod, to_Mod, nm_Mod, by decide, wt3 67 rfl rfl, rfl, rfl, by decide +kernel⟩
theorem fq_Mod_50 : FP "FeatureUnionsModel" 50 8 19 (ty_Mod 19) true := ⟨_, _, _, ty_Mod, rfl, uw_Mod, to_Mod, nm_Mod, by decide, wt3 68 rfl rfl, rfl, rfl, by decide +kernel⟩
theorem fq_Mod_53 : FP "FeatureUnionsModel" 53 8 20 (ty_Mod 20) true := ⟨_, _, _, ty_Mod, rfl, uw_Mod, to_Mod, nm_Mod, by decide, wt3 69 rfl rfl, rfl, rfl, by decide +kernel⟩
theorem fq_Mod_56 : FP "FeatureUnionsModel" 56 8 21 (ty_Mod 21) true := ⟨_, _, _, ty_Mod, rfl, uw_Mod, to_Mod, nm_Mod, by decide, wt3 70 rfl rfl, rfl, rfl, by decide +kernel⟩
theorem fq_Mod_59 : FP "FeatureUnionsModel" 59 8 22 (ty_Mod 22) true := ⟨_, _, _, ty_Mod, rfl, uw_Mod, to_Mod, nm_Mod, by decide, wt3 71 rfl rfl, rfl, rfl, by decide +kernel⟩
theorem fq_Mod_62 : FP "FeatureUnionsModel" 62 8 23 (ty_Mod 23) true := ⟨_, _, _, ty_Mod, rfl, uw_Mod, to_Mod, nm_Mod, by decide, wt3 72 rfl rfl, rfl, rfl, by decide +kernel⟩
theorem fq_Mod_65 : FP "FeatureUnionsModel" 65 8 24 (ty_Mod 24) true := ⟨_, _, _, ty_Mod, rfl, uw_Mod, to_Mod, nm_Mod, by decide, wt3 73 rfl rfl, rfl, rfl, by decide +kernel⟩
theorem fq_Mod_68 : FP "FeatureUnionsModel" 68 8 31 (ty_Mod 31) true := ⟨_, _, _, ty_Mod, rfl, uw_Mod, to_Mod, nm_Mod, by decide, wt3 80 rfl rfl, rfl, rfl, by decide +kernel⟩
theorem fq_Mod_71 : FP "FeatureUnionsModel" 71 8 34 (ty_Mod 34) true := ⟨_, _, _, ty_Mod, rfl, uw_Mod, to_Mod, nm_Mod, by decide, wt3 83 rfl rfl, rfl, rfl, by decide +kernel⟩
theorem fq_Mod_74 : FP "FeatureUnionsModel" 74 8 35 (ty_Mod 35) true := ⟨_, _, _, ty_Mod, rfl, uw_Mod, to_Mod, nm_Mod, by decide, wt3 84 rfl rfl, rfl, rfl, by decide +kernel⟩
theorem fq_Mod_77 : FP "FeatureUnionsModel" 77 8 36 (ty_Mod 36) true := ⟨_, _, _, ty_Mod, rfl, uw_Mod, to_Mod, nm_Mod, by decide, wt3 85 rfl rfl, rfl, rfl, by decide +kernel⟩
theorem fq_Mod_80 : FP "FeatureUnionsModel" 80 8 37 (ty_Mod 37) true := ⟨_, _, _, ty_Mod, rfl, uw_Mod, to_Mod, nm_Mod, by decide, wt3 86 rfl rfl, rfl, rfl, by decide +kernel⟩
theorem fq_Mod_83 : FP "FeatureUnionsModel" 83 8 38 (ty_Mod 38) true := ⟨_, _, _, ty_Mod, rfl, uw_Mod, to_Mod, nm_Mod, by decide, wt3 87 rfl rfl, rfl, rfl, by decide +kernel⟩
theorem fq_Mod_86 : FP "FeatureUnionsModel" 86 8 39 (ty_Mod 39) true := ⟨_, _, _, ty_Mod, rfl, uw_Mod, to_Mod, nm_Mod, by decide, wt3 88 rfl rfl, rfl, rfl, by decide +kernel⟩
theorem fq_Mod_93 : FP "FeatureUnionsModel" 93 8 41 (ty_Mod 41) true := ⟨_, _, _, ty_Mod, rfl, uw_Mod, to_Mod, nm_Mod, by decide, wt3 90 rfl rfl, rfl, rfl, by decide +kernel⟩
theorem fq_Mod_96 : FP "FeatureUnionsModel" 96 8 43 (ty_Mod 43) true := ⟨_, _, _, ty_Mod, rfl, uw_Mod, to_Mod, nm_Mod, by decide, wt3 92 rfl rfl, rfl, rfl, by decide +kernel⟩
theorem fq_Mod_99 : FP "FeatureUnionsModel" 99 8 44 (ty_Mod 44) true := ⟨_, _, _, ty_Mod, rfl, uw_Mod, to_Mod, nm_Mod, by decide, wt3 93 rfl rfl, rfl, rfl, by decide +kernel⟩
theorem lm_FU_11 : LM "FeatureUnions" 11 (my q_Packs_init) := Or.inr ⟨_, wn1 21 rfl rfl⟩
theorem lm_FU_18 : LM "FeatureUnions" 18 (my q_Feats_init) := Or.inr ⟨_, wn1 48 rfl rfl⟩
theorem lm_FU_25 : LM "FeatureUnions" 25 (my q_Users_init) := Or.inr ⟨_, wn1 79 rfl rfl⟩
theorem lm_FU_32 : LM "FeatureUnions" 32 (my q_Turns_init) := Or.inr ⟨_, wn1 123 rfl rfl⟩
theorem lm_FU_39 : LM "FeatureUnions" 39 (my q_Snap_init) := Or.inl (wt1 155 rfl rfl)
theorem lm_FU_48 : LM "FeatureUnions" 48 (my q_Clo_init) := Or.inl (wt1 214 rfl rfl)
theorem lm_FU_60 : LM "FeatureUnions" 60 (my q_Reas_init) := Or.inl (wt1 233 rfl rfl)
theorem lm_FU_82 : LM "FeatureUnions" 82 (my q_Packs_add) := Or.inl (wt2 42 rfl rfl)
theorem lm_FU_86 : LM "FeatureUnions" 86 (my q_Packs_has) := Or.inl (wt2 50 rfl rfl)
theorem lm_FU_90 : LM "FeatureUnions" 90 (my q_FU_within) := Or.inl (wt2 57 rfl rfl)
theorem lm_FU_94 : LM "FeatureUnions" 94 (my q_Feats_find) := Or.inl (wt2 58 rfl rfl)
theorem lm_FU_98 : LM "FeatureUnions" 98 (my q_Feats_countOf) := Or.inl (wt2 62 rfl rfl)
theorem lm_FU_103 : LM "FeatureUnions" 103 (my q_Feats_add) := Or.inl (wt2 66 rfl rfl)
theorem lm_FU_109 : LM "FeatureUnions" 109 (my q_FU_bit) := Or.inl (wt2 74 rfl rfl)
theorem lm_FU_112 : LM "FeatureUnions" 112 (my q_Packs_makeRoot) := Or.inl (wt2 77 rfl rfl)
theorem lm_FU_117 : LM "FeatureUnions" 117 (my q_Users_add) := Or.inl (wt2 85 rfl rfl)
theorem lm_FU_120 : LM "FeatureUnions" 120 (my q_Users_has) := Or.inl (wt2 93 rfl rfl)
theorem lm_FU_127 : LM "FeatureUnions" 127 (my q_Feats_has) := Or.inl (wt2 102 rfl rfl)
theorem lm_FU_139 : LM "FeatureUnions" 139 (my q_Turns_add) := Or.inl (wt2 107 rfl rfl)
theorem lm_FU_142 : LM "FeatureUnions" 142 (my q_Snap_take) := Or.inl (wt2 115 rfl rfl)
theorem lm_FU_146 : LM "FeatureUnions" 146 (my q_Clo_close) := Or.inl (wt2 122 rfl rfl)
theorem lm_FU_149 : LM "FeatureUnions" 149 (my q_Clo_greatestStage) := Or.inl (wt2 199 rfl rfl)
theorem lm_FU_153 : LM "FeatureUnions" 153 (my q_Clo_thereStage) := Or.inl (wt2 207 rfl rfl)
theorem lm_FU_156 : LM "FeatureUnions" 156 (my q_Clo_liveStage) := Or.inl (wt2 212 rfl rfl)
theorem lm_FU_159 : LM "FeatureUnions" 159 (my q_Clo_onStage) := Or.inl (wt2 217 rfl rfl)
theorem lm_FU_162 : LM "FeatureUnions" 162 (my q_FU_on) := Or.inl (wt2 222 rfl rfl)
theorem lm_FU_165 : LM "FeatureUnions" 165 (my q_Reas_countOf) := Or.inl (wt2 223 rfl rfl)
theorem lm_FU_167 : LM "FeatureUnions" 167 (my q_Reas_find) := Or.inl (wt3 19 rfl rfl)
theorem lm_FU_170 : LM "FeatureUnions" 170 (my q_Feats_exclude) := Or.inl (wt3 27 rfl rfl)
theorem lm_FU_174 : LM "FeatureUnions" 174 (my q_FU_noteLeavers) := Or.inl (wt3 35 rfl rfl)
theorem lm_Clo_34 : LM "FeatureUnions$Closure" 34 (my q_FU_bit) := Or.inr ⟨_, wn2 126 rfl rfl⟩
theorem lm_Clo_38 : LM "FeatureUnions$Closure" 38 (my q_Clo_bringThere) := Or.inl (wt2 127 rfl rfl)
theorem lm_Clo_42 : LM "FeatureUnions$Closure" 42 (my q_Clo_follow) := Or.inl (wt2 135 rfl rfl)
theorem lm_Clo_46 : LM "FeatureUnions$Closure" 46 (my q_Clo_followThere) := Or.inl (wt2 139 rfl rfl)
theorem lm_Clo_49 : LM "FeatureUnions$Closure" 49 (my q_Clo_followLive) := Or.inl (wt2 167 rfl rfl)
theorem lm_Clo_52 : LM "FeatureUnions$Closure" 52 (my q_Clo_followOn) := Or.inl (wt2 183 rfl rfl)
theorem lm_Clo_71 : LM "FeatureUnions$Closure" 71 (my q_Clo_bringLive) := Or.inl (wt2 143 rfl rfl)
theorem lm_Clo_86 : LM "FeatureUnions$Closure" 86 (my q_Snap_isDefaultOfRoot) := Or.inl (wt2 152 rfl rfl)
theorem lm_Clo_99 : LM "FeatureUnions$Closure" 99 (my q_Clo_onStage) := Or.inl (wt2 156 rfl rfl)
theorem lm_Clo_103 : LM "FeatureUnions$Closure" 103 (my q_Clo_isBy) := Or.inl (wt2 160 rfl rfl)
theorem lm_Clo_106 : LM "FeatureUnions$Closure" 106 (my q_Clo_bringOn) := Or.inl (wt2 163 rfl rfl)
theorem lm_Clo_109 : LM "FeatureUnions$Closure" 109 (my q_Users_farSide) := Or.inl (wt2 171 rfl rfl)
theorem lm_Clo_115 : LM "FeatureUnions$Closure" 115 (my q_Snap_isAskedBy) := Or.inl (wt2 175 rfl rfl)
theorem lm_Clo_118 : LM "FeatureUnions$Closure" 118 (my q_Snap_isDefaultFor) := Or.inl (wt2 179 rfl rfl)
theorem lm_Clo_142 : LM "FeatureUnions$Closure" 142 (my q_Clo_thereStage) := Or.inl (wt2 187 rfl rfl)
theorem lm_Clo_145 : LM "FeatureUnions$Closure" 145 (my q_Clo_followTurn) := Or.inl (wt2 191 rfl rfl)
theorem lm_Clo_148 : LM "FeatureUnions$Closure" 148 (my q_Snap_counts) := Or.inl (wt2 147 rfl rfl)
theorem lm_Clo_151 : LM "FeatureUnions$Closure" 151 (my q_Clo_liveStage) := Or.inl (wt2 195 rfl rfl)
theorem lm_Clo_154 : LM "FeatureUnions$Closure" 154 (my q_Clo_bring) := Or.inl (wt2 131 rfl rfl)
theorem lm_Feats_29 : LM "FeatureUnions$Features" 29 (my q_FU_within) := Or.inr ⟨_, wn2 106 rfl rfl⟩
theorem lm_Packs_25 : LM "FeatureUnions$Packs" 25 (my q_FU_within) := Or.inr ⟨_, wn2 54 rfl rfl⟩
theorem lm_Reas_19 : LM "FeatureUnions$Reasons" 19 (my q_Reas_holds) := Or.inl (wt2 227 rfl rfl)
theorem lm_Reas_23 : LM "FeatureUnions$Reasons" 23 (my q_Reas_isByRoot) := Or.inl (wt2 231 rfl rfl)
theorem lm_Reas_26 : LM "FeatureUnions$Reasons" 26 (my q_Reas_isByUser) := Or.inl (wt2 237 rfl rfl)
theorem lm_Reas_30 : LM "FeatureUnions$Reasons" 30 (my q_Reas_isByTurn) := Or.inl (wt3 5 rfl rfl)
theorem lm_Reas_33 : LM "FeatureUnions$Reasons" 33 (my q_Reas_isByOtherSide) := Or.inl (wt3 11 rfl rfl)
theorem lm_Reas_48 : LM "FeatureUnions$Reasons" 48 (my q_Snap_isDefaultOfRoot) := Or.inl (wt2 235 rfl rfl)
theorem lm_Reas_52 : LM "FeatureUnions$Reasons" 52 (my q_Clo_thereStage) := Or.inl (wt2 236 rfl rfl)
theorem lm_Reas_62 : LM "FeatureUnions$Reasons" 62 (my q_Clo_liveStage) := Or.inl (wt3 1 rfl rfl)
theorem lm_Reas_69 : LM "FeatureUnions$Reasons" 69 (my q_Users_farSide) := Or.inl (wt3 2 rfl rfl)
theorem lm_Reas_74 : LM "FeatureUnions$Reasons" 74 (my q_Snap_isAskedBy) := Or.inl (wt3 3 rfl rfl)
theorem lm_Reas_78 : LM "FeatureUnions$Reasons" 78 (my q_Snap_isDefaultFor) := Or.inl (wt3 4 rfl rfl)
theorem lm_Reas_96 : LM "FeatureUnions$Reasons" 96 (my q_Clo_onStage) := Or.inl (wt3 9 rfl rfl)
theorem lm_Reas_105 : LM "FeatureUnions$Reasons" 105 (my q_Snap_counts) := Or.inl (wt3 10 rfl rfl)
theorem lm_Snap_79 : LM "FeatureUnions$Snapshot" 79 (my q_FU_bit) := Or.inr ⟨_, wn2 151 rfl rfl⟩
theorem lm_Users_38 : LM "FeatureUnions$Users" 38 (my q_FU_within) := Or.inr ⟨_, wn2 97 rfl rfl⟩
theorem lm_Law_9 : LM "FeatureUnionsLaw" 9 (my q_FU_init) := Or.inl (wt1 13 rfl rfl)
theorem lm_Law_12 : LM "FeatureUnionsLaw" 12 (my q_Mod_init) := Or.inl (wt3 45 rfl rfl)
theorem lm_Law_13 : LM "FeatureUnionsLaw" 13 (my q_FU_pack) := Or.inl (wt2 38 rfl rfl)
theorem lm_Law_17 : LM "FeatureUnionsLaw" 17 (my q_Mod_pack) := Or.inl (wt3 188 rfl rfl)
theorem lm_Law_18 : LM "FeatureUnionsLaw" 18 (my q_FU_feature) := Or.inl (wt2 46 rfl rfl)
theorem lm_Law_22 : LM "FeatureUnionsLaw" 22 (my q_Mod_feature) := Or.inl (wt3 192 rfl rfl)
theorem lm_Law_23 : LM "FeatureUnionsLaw" 23 (my q_FU_root) := Or.inl (wt2 70 rfl rfl)
theorem lm_Law_27 : LM "FeatureUnionsLaw" 27 (my q_Mod_root) := Or.inl (wt3 208 rfl rfl)
theorem lm_Law_28 : LM "FeatureUnionsLaw" 28 (my q_FU_user) := Or.inl (wt2 81 rfl rfl)
theorem lm_Law_32 : LM "FeatureUnionsLaw" 32 (my q_Mod_user) := Or.inl (wt3 212 rfl rfl)
theorem lm_Law_33 : LM "FeatureUnionsLaw" 33 (my q_FU_asks) := Or.inl (wt2 89 rfl rfl)
theorem lm_Law_37 : LM "FeatureUnionsLaw" 37 (my q_Mod_asks) := Or.inl (wt3 216 rfl rfl)
theorem lm_Law_38 : LM "FeatureUnionsLaw" 38 (my q_FU_turn) := Or.inl (wt2 98 rfl rfl)
theorem lm_Law_42 : LM "FeatureUnionsLaw" 42 (my q_Mod_turn) := Or.inl (wt3 228 rfl rfl)
theorem lm_Law_43 : LM "FeatureUnionsLaw" 43 (my q_FU_run) := Or.inl (wt2 111 rfl rfl)
theorem lm_Law_47 : LM "FeatureUnionsLaw" 47 (my q_Mod_run) := Or.inl (wt3 236 rfl rfl)
theorem lm_Law_48 : LM "FeatureUnionsLaw" 48 (my q_FU_there) := Or.inl (wt2 203 rfl rfl)
theorem lm_Law_51 : LM "FeatureUnionsLaw" 51 (my q_Mod_there) := Or.inl (wt4 39 rfl rfl)
theorem lm_Law_52 : LM "FeatureUnionsLaw" 52 (my q_FU_live) := Or.inl (wt2 208 rfl rfl)
theorem lm_Law_55 : LM "FeatureUnionsLaw" 55 (my q_Mod_live) := Or.inl (wt4 46 rfl rfl)
theorem lm_Law_56 : LM "FeatureUnionsLaw" 56 (my q_FU_on) := Or.inl (wt2 213 rfl rfl)
theorem lm_Law_59 : LM "FeatureUnionsLaw" 59 (my q_Mod_on) := Or.inl (wt4 50 rfl rfl)
theorem lm_Law_60 : LM "FeatureUnionsLaw" 60 (my q_FU_reasons) := Or.inl (wt2 218 rfl rfl)
theorem lm_Law_63 : LM "FeatureUnionsLaw" 63 (my q_Mod_reasons) := Or.inl (wt4 54 rfl rfl)
theorem lm_Law_64 : LM "FeatureUnionsLaw" 64 (my q_FU_reason) := Or.inl (wt3 15 rfl rfl)
theorem lm_Law_67 : LM "FeatureUnionsLaw" 67 (my q_Mod_reason) := Or.inl (wt4 62 rfl rfl)
theorem lm_Law_68 : LM "FeatureUnionsLaw" 68 (my q_FU_clash) := Or.inl (wt3 23 rfl rfl)
theorem lm_Law_71 : LM "FeatureUnionsLaw" 71 (my q_Mod_clash) := Or.inl (wt4 66 rfl rfl)
theorem lm_Law_72 : LM "FeatureUnionsLaw" 72 (my q_FU_without) := Or.inl (wt3 31 rfl rfl)
theorem lm_Law_75 : LM "FeatureUnionsLaw" 75 (my q_Mod_without) := Or.inl (wt4 70 rfl rfl)
theorem lm_Law_76 : LM "FeatureUnionsLaw" 76 (my q_FU_left) := Or.inl (wt3 39 rfl rfl)
theorem lm_Law_79 : LM "FeatureUnionsLaw" 79 (my q_Mod_left) := Or.inl (wt4 74 rfl rfl)
theorem lm_Mod_118 : LM "FeatureUnionsModel" 118 (my q_Mod_isPack) := Or.inl (wt3 196 rfl rfl)
theorem lm_Mod_122 : LM "FeatureUnionsModel" 122 (my q_Mod_many) := Or.inl (wt3 200 rfl rfl)
theorem lm_Mod_126 : LM "FeatureUnionsModel" 126 (my q_Mod_named) := Or.inl (wt3 204 rfl rfl)
theorem lm_Mod_130 : LM "FeatureUnionsModel" 130 (my q_Mod_isUser) := Or.inl (wt3 220 rfl rfl)
theorem lm_Mod_136 : LM "FeatureUnionsModel" 136 (my q_Mod_asking) := Or.inl (wt3 224 rfl rfl)
theorem lm_Mod_140 : LM "FeatureUnionsModel" 140 (my q_Mod_isFeature) := Or.inl (wt3 232 rfl rfl)
theorem lm_Mod_152 : LM "FeatureUnionsModel" 152 (my q_Mod_isFor) := Or.inl (wt4 8 rfl rfl)
theorem lm_Mod_155 : LM "FeatureUnionsModel" 155 (my q_Mod_farSide) := Or.inl (wt4 12 rfl rfl)
theorem lm_Mod_158 : LM "FeatureUnionsModel" 158 (my q_Mod_came) := Or.inl (wt4 16 rfl rfl)
theorem lm_Mod_168 : LM "FeatureUnionsModel" 168 (my q_Mod_tell) := Or.inl (wt4 31 rfl rfl)
theorem lm_Mod_175 : LM "FeatureUnionsModel" 175 (my q_Mod_turnsOn) := Or.inl (wt4 35 rfl rfl)
theorem lm_Mod_179 : LM "FeatureUnionsModel" 179 (my q_Mod_gather) := Or.inl (wt4 27 rfl rfl)
theorem lm_Mod_186 : LM "FeatureUnionsModel" 186 (my q_Mod_comesThere) := Or.inl (wt4 4 rfl rfl)
theorem lm_Mod_190 : LM "FeatureUnionsModel" 190 (my q_Mod_comesLive) := Or.inl (wt4 19 rfl rfl)
theorem lm_Mod_196 : LM "FeatureUnionsModel" 196 (my q_Mod_comesOn) := Or.inl (wt4 23 rfl rfl)
theorem lm_Mod_202 : LM "FeatureUnionsModel" 202 (my q_Mod_close) := Or.inl (wt4 0 rfl rfl)
theorem lm_Mod_206 : LM "FeatureUnionsModel" 206 (my q_Mod_isSide) := Or.inl (wt4 43 rfl rfl)
theorem lm_Mod_209 : LM "FeatureUnionsModel" 209 (my q_Mod_reasoned) := Or.inl (wt4 58 rfl rfl)
theorem oi_FU_3 : Cond.methodLink "FeatureUnions" 3 objectInit ∈ Wt := wt1 16 rfl rfl
theorem oi_Clo_3 : Cond.methodLink "FeatureUnions$Closure" 3 objectInit ∈ Wt := wt1 217 rfl rfl
theorem oi_Feats_3 : Cond.methodLink "FeatureUnions$Features" 3 objectInit ∈ Wt := wt1 51 rfl rfl
theorem oi_Packs_3 : Cond.methodLink "FeatureUnions$Packs" 3 objectInit ∈ Wt := wt1 24 rfl rfl
theorem oi_Reas_3 : Cond.methodLink "FeatureUnions$Reasons" 3 objectInit ∈ Wt := wt1 236 rfl rfl
theorem oi_Snap_3 : Cond.methodLink "FeatureUnions$Snapshot" 3 objectInit ∈ Wt := wt1 158 rfl rfl
theorem oi_Turns_3 : Cond.methodLink "FeatureUnions$Turns" 3 objectInit ∈ Wt := wt1 126 rfl rfl
theorem oi_Users_3 : Cond.methodLink "FeatureUnions$Users" 3 objectInit ∈ Wt := wt1 82 rfl rfl
theorem oi_Mod_1 : Cond.methodLink "FeatureUnionsModel" 1 objectInit ∈ Wt := wt3 48 rfl rfl
theorem oi_ins : Cond.instanceMethod objectInit ∈ Wt := wt1 17 rfl rfl
theorem oi_code : Cond.code objectInit ⟨#[0xb1]⟩ 1 none ∈ Wt := wt1 18 rfl rfl
theorem aw_int : Cond.arrayClass .int ∈ Wt := wt1 76 rfl rfl
theorem aw_boolean : Cond.arrayClass .boolean ∈ Wt := wt1 45 rfl rfl
theorem nk_FU_9 : NK "FeatureUnions" 9 1 4 [vi 0, vi 0, vi 0, vn] := ⟨_, _, ty_Packs, rfl, uw_Packs, to_Packs, wt1 19 rfl rfl, wt1 20 rfl rfl, wt1 2 rfl rfl, fun b ad j hj => nd_Packs b ad j hj⟩
theorem nk_FU_16 : NK "FeatureUnions" 16 2 5 [vi 0, vn, vn, vn, vn] := ⟨_, _, ty_Feats, rfl, uw_Feats, to_Feats, wt1 46 rfl rfl, wt1 47 rfl rfl, wt1 3 rfl rfl, fun b ad j hj => nd_Feats b ad j hj⟩
theorem nk_FU_23 : NK "FeatureUnions" 23 3 8 [vi 0, vn, vn, vn, vn, vn, vn, vn] := ⟨_, _, ty_Users, rfl, uw_Users, to_Users, wt1 77 rfl rfl, wt1 78 rfl rfl, wt1 4 rfl rfl, fun b ad j hj => nd_Users b ad j hj⟩
theorem nk_FU_30 : NK "FeatureUnions" 30 4 5 [vi 0, vn, vn, vn, vn] := ⟨_, _, ty_Turns, rfl, uw_Turns, to_Turns, wt1 121 rfl rfl, wt1 122 rfl rfl, wt1 5 rfl rfl, fun b ad j hj => nd_Turns b ad j hj⟩
theorem nk_FU_37 : NK "FeatureUnions" 37 5 12 [vn, vn, vn, vn, vi 0, vi 0, vi 0, vi 0, vi 0, vi 0, vi 0, vn] := ⟨_, _, ty_Snap, rfl, uw_Snap, to_Snap, wt1 153 rfl rfl, wt1 154 rfl rfl, wt1 6 rfl rfl, fun b ad j hj => nd_Snap b ad j hj⟩
theorem nk_FU_46 : NK "FeatureUnions" 46 6 4 [vn, vn, vn, vi 0] := ⟨_, _, ty_Clo, rfl, uw_Clo, to_Clo, wt1 212 rfl rfl, wt1 213 rfl rfl, wt1 7 rfl rfl, fun b ad j hj => nd_Clo b ad j hj⟩
theorem nk_FU_58 : NK "FeatureUnions" 58 7 2 [vn, vn] := ⟨_, _, ty_Reas, rfl, uw_Reas, to_Reas, wt1 231 rfl rfl, wt1 232 rfl rfl, wt1 8 rfl rfl, fun b ad j hj => nd_Reas b ad j hj⟩
theorem nk_Law_7 : NK "FeatureUnionsLaw" 7 0 11 [vn, vn, vn, vn, vn, vn, vn, vn, vn, vi 0, vi 0] := ⟨_, _, ty_FU, rfl, uw_FU, to_FU, wt1 11 rfl rfl, wt1 12 rfl rfl, wt1 1 rfl rfl, fun b ad j hj => nd_FU b ad j hj⟩
theorem nk_Law_10 : NK "FeatureUnionsLaw" 10 8 46 [vi 0, vi 0, vi 0, vi 0, vi 0, vi 0, vn, vn, vn, vn, vn, vn, vn, vn, vn, vn, vn, vn, vn, vn, vn, vn, vn, vn, vn, vi 0, vi 0, vi 0, vi 0, vi 0, vi 0, vn, vi 0, vi 0, vn, vn, vn, vn, vn, vn, vi 0, vn, vi 0, vn, vn, vi 0] := ⟨_, _, ty_Mod, rfl, uw_Mod, to_Mod, wt3 43 rfl rfl, wt3 44 rfl rfl, wt1 9 rfl rfl, fun b ad j hj => nd_Mod b ad j hj⟩
theorem ac_Snap_70 : Cond.methodLink "FeatureUnions$Snapshot" 70 arraycopyName ∈ Wt := wt2 119 rfl rfl
theorem ac_nat : Cond.native arraycopyName ∈ Wt := wt2 121 rfl rfl
theorem ac_sta : Cond.static arraycopyName ∈ Wt := wt2 120 rfl rfl
theorem ac_ini : Cond.initialized "java/lang/System" ∈ Wt := wt1 10 rfl rfl
end
section
theorem d_Packs_init_0 : decode b_Packs_init 0 = .ok (.aload_n 0, 1) := by decide +kernel
theorem d_Packs_init_1 : decode b_Packs_init 1 = .ok (.invokespecial 3, 3) := by decide +kernel
theorem d_Packs_init_4 : decode b_Packs_init 4 = .ok (.aload_n 0, 1) := by decide +kernel
theorem d_Packs_init_5 : decode b_Packs_init 5 = .ok (.iconst 0, 1) := by decide +kernel
theorem d_Packs_init_6 : decode b_Packs_init 6 = .ok (.putfield 9, 3) := by decide +kernel
theorem d_Packs_init_9 : decode b_Packs_init 9 = .ok (.aload_n 0, 1) := by decide +kernel
theorem d_Packs_init_10 : decode b_Packs_init 10 = .ok (.iconst 0, 1) := by decide +kernel
theorem d_Packs_init_11 : decode b_Packs_init 11 = .ok (.putfield 15, 3) := by decide +kernel
theorem d_Packs_init_14 : decode b_Packs_init 14 = .ok (.aload_n 0, 1) := by decide +kernel
theorem d_Packs_init_15 : decode b_Packs_init 15 = .ok (.iconst 0, 1) := by decide +kernel
theorem d_Packs_init_16 : decode b_Packs_init 16 = .ok (.putfield 18, 3) := by decide +kernel
theorem d_Packs_init_19 : decode b_Packs_init 19 = .ok (.aload_n 0, 1) := by decide +kernel
theorem d_Packs_init_20 : decode b_Packs_init 20 = .ok (.bipush 10, 2) := by decide +kernel
theorem d_Packs_init_22 : decode b_Packs_init 22 = .ok (.newarray .boolean, 2) := by decide +kernel
theorem d_Packs_init_24 : decode b_Packs_init 24 = .ok (.putfield 21, 3) := by decide +kernel
theorem d_Packs_init_27 : decode b_Packs_init 27 = .ok (.return_, 1) := by decide +kernel
theorem d_Feats_init_0 : decode b_Feats_init 0 = .ok (.aload_n 0, 1) := by decide +kernel
theorem d_Feats_init_1 : decode b_Feats_init 1 = .ok (.invokespecial 3, 3) := by decide +kernel
theorem d_Feats_init_4 : decode b_Feats_init 4 = .ok (.aload_n 0, 1) := by decide +kernel
theorem d_Feats_init_5 : decode b_Feats_init 5 = .ok (.iconst 0, 1) := by decide +kernel
theorem d_Feats_init_6 : decode b_Feats_init 6 = .ok (.putfield 9, 3) := by decide +kernel
theorem d_Feats_init_9 : decode b_Feats_init 9 = .ok (.aload_n 0, 1) := by decide +kernel
theorem d_Feats_init_10 : decode b_Feats_init 10 = .ok (.bipush 60, 2) := by decide +kernel
theorem d_Feats_init_12 : decode b_Feats_init 12 = .ok (.newarray .int, 2) := by decide +kernel
theorem d_Feats_init_14 : decode b_Feats_init 14 = .ok (.putfield 15, 3) := by decide +kernel
theorem d_Feats_init_17 : decode b_Feats_init 17 = .ok (.aload_n 0, 1) := by decide +kernel
theorem d_Feats_init_18 : decode b_Feats_init 18 = .ok (.bipush 60, 2) := by decide +kernel
theorem d_Feats_init_20 : decode b_Feats_init 20 = .ok (.newarray .int, 2) := by decide +kernel
theorem d_Feats_init_22 : decode b_Feats_init 22 = .ok (.putfield 19, 3) := by decide +kernel
theorem d_Feats_init_25 : decode b_Feats_init 25 = .ok (.aload_n 0, 1) := by decide +kernel
theorem d_Feats_init_26 : decode b_Feats_init 26 = .ok (.bipush 60, 2) := by decide +kernel
theorem d_Feats_init_28 : decode b_Feats_init 28 = .ok (.newarray .int, 2) := by decide +kernel
theorem d_Feats_init_30 : decode b_Feats_init 30 = .ok (.putfield 22, 3) := by decide +kernel
theorem d_Feats_init_33 : decode b_Feats_init 33 = .ok (.aload_n 0, 1) := by decide +kernel
theorem d_Feats_init_34 : decode b_Feats_init 34 = .ok (.bipush 60, 2) := by decide +kernel
theorem d_Feats_init_36 : decode b_Feats_init 36 = .ok (.newarray .boolean, 2) := by decide +kernel
theorem d_Feats_init_38 : decode b_Feats_init 38 = .ok (.putfield 25, 3) := by decide +kernel
theorem d_Feats_init_41 : decode b_Feats_init 41 = .ok (.return_, 1) := by decide +kernel
theorem d_Users_init_0 : decode b_Users_init 0 = .ok (.aload_n 0, 1) := by decide +kernel
theorem d_Users_init_1 : decode b_Users_init 1 = .ok (.invokespecial 3, 3) := by decide +kernel
theorem d_Users_init_4 : decode b_Users_init 4 = .ok (.aload_n 0, 1) := by decide +kernel
theorem d_Users_init_5 : decode b_Users_init 5 = .ok (.iconst 0, 1) := by decide +kernel
theorem d_Users_init_6 : decode b_Users_init 6 = .ok (.putfield 9, 3) := by decide +kernel
theorem d_Users_init_9 : decode b_Users_init 9 = .ok (.aload_n 0, 1) := by decide +kernel
theorem d_Users_init_10 : decode b_Users_init 10 = .ok (.bipush 40, 2) := by decide +kernel
theorem d_Users_init_12 : decode b_Users_init 12 = .ok (.newarray .int, 2) := by decide +kernel
theorem d_Users_init_14 : decode b_Users_init 14 = .ok (.putfield 15, 3) := by decide +kernel
theorem d_Users_init_17 : decode b_Users_init 17 = .ok (.aload_n 0, 1) := by decide +kernel
theorem d_Users_init_18 : decode b_Users_init 18 = .ok (.bipush 40, 2) := by decide +kernel
theorem d_Users_init_20 : decode b_Users_init 20 = .ok (.newarray .int, 2) := by decide +kernel
theorem d_Users_init_22 : decode b_Users_init 22 = .ok (.putfield 19, 3) := by decide +kernel
theorem d_Users_init_25 : decode b_Users_init 25 = .ok (.aload_n 0, 1) := by decide +kernel
theorem d_Users_init_26 : decode b_Users_init 26 = .ok (.bipush 40, 2) := by decide +kernel
theorem d_Users_init_28 : decode b_Users_init 28 = .ok (.newarray .int, 2) := by decide +kernel
theorem d_Users_init_30 : decode b_Users_init 30 = .ok (.putfield 22, 3) := by decide +kernel
theorem d_Users_init_33 : decode b_Users_init 33 = .ok (.aload_n 0, 1) := by decide +kernel
theorem d_Users_init_34 : decode b_Users_init 34 = .ok (.bipush 40, 2) := by decide +kernel
theorem d_Users_init_36 : decode b_Users_init 36 = .ok (.newarray .int, 2) := by decide +kernel
theorem d_Users_init_38 : decode b_Users_init 38 = .ok (.putfield 25, 3) := by decide +kernel
theorem d_Users_init_41 : decode b_Users_init 41 = .ok (.aload_n 0, 1) := by decide +kernel
theorem d_Users_init_42 : decode b_Users_init 42 = .ok (.bipush 40, 2) := by decide +kernel
theorem d_Users_init_44 : decode b_Users_init 44 = .ok (.newarray .boolean, 2) := by decide +kernel
theorem d_Users_init_46 : decode b_Users_init 46 = .ok (.putfield 28, 3) := by decide +kernel
theorem d_Users_init_49 : decode b_Users_init 49 = .ok (.aload_n 0, 1) := by decide +kernel
theorem d_Users_init_50 : decode b_Users_init 50 = .ok (.bipush 40, 2) := by decide +kernel
theorem d_Users_init_52 : decode b_Users_init 52 = .ok (.newarray .boolean, 2) := by decide +kernel
theorem d_Users_init_54 : decode b_Users_init 54 = .ok (.putfield 32, 3) := by decide +kernel
theorem d_Users_init_57 : decode b_Users_init 57 = .ok (.aload_n 0, 1) := by decide +kernel
theorem d_Users_init_58 : decode b_Users_init 58 = .ok (.bipush 40, 2) := by decide +kernel
theorem d_Users_init_60 : decode b_Users_init 60 = .ok (.newarray .boolean, 2) := by decide +kernel
theorem d_Users_init_62 : decode b_Users_init 62 = .ok (.putfield 35, 3) := by decide +kernel
theorem d_Users_init_65 : decode b_Users_init 65 = .ok (.return_, 1) := by decide +kernel
theorem d_Turns_init_0 : decode b_Turns_init 0 = .ok (.aload_n 0, 1) := by decide +kernel
theorem d_Turns_init_1 : decode b_Turns_init 1 = .ok (.invokespecial 3, 3) := by decide +kernel
theorem d_Turns_init_4 : decode b_Turns_init 4 = .ok (.aload_n 0, 1) := by decide +kernel
theorem d_Turns_init_5 : decode b_Turns_init 5 = .ok (.iconst 0, 1) := by decide +kernel
theorem d_Turns_init_6 : decode b_Turns_init 6 = .ok (.putfield 9, 3) := by decide +kernel
theorem d_Turns_init_9 : decode b_Turns_init 9 = .ok (.aload_n 0, 1) := by decide +kernel
theorem d_Turns_init_10 : decode b_Turns_init 10 = .ok (.bipush 60, 2) := by decide +kernel
theorem d_Turns_init_12 : decode b_Turns_init 12 = .ok (.newarray .int, 2) := by decide +kernel
theorem d_Turns_init_14 : decode b_Turns_init 14 = .ok (.putfield 15, 3) := by decide +kernel
theorem d_Turns_init_17 : decode b_Turns_init 17 = .ok (.aload_n 0, 1) := by decide +kernel
theorem d_Turns_init_18 : decode b_Turns_init 18 = .ok (.bipush 60, 2) := by decide +kernel
theorem d_Turns_init_20 : decode b_Turns_init 20 = .ok (.newarray .int, 2) := by decide +kernel
theorem d_Turns_init_22 : decode b_Turns_init 22 = .ok (.putfield 19, 3) := by decide +kernel
theorem d_Turns_init_25 : decode b_Turns_init 25 = .ok (.aload_n 0, 1) := by decide +kernel
theorem d_Turns_init_26 : decode b_Turns_init 26 = .ok (.bipush 60, 2) := by decide +kernel
theorem d_Turns_init_28 : decode b_Turns_init 28 = .ok (.newarray .int, 2) := by decide +kernel
theorem d_Turns_init_30 : decode b_Turns_init 30 = .ok (.putfield 22, 3) := by decide +kernel
theorem d_Turns_init_33 : decode b_Turns_init 33 = .ok (.aload_n 0, 1) := by decide +kernel
theorem d_Turns_init_34 : decode b_Turns_init 34 = .ok (.bipush 60, 2) := by decide +kernel
theorem d_Turns_init_36 : decode b_Turns_init 36 = .ok (.newarray .int, 2) := by decide +kernel
theorem d_Turns_init_38 : decode b_Turns_init 38 = .ok (.putfield 25, 3) := by decide +kernel
theorem d_Turns_init_41 : decode b_Turns_init 41 = .ok (.return_, 1) := by decide +kernel
theorem d_Snap_init_0 : decode b_Snap_init 0 = .ok (.aload_n 0, 1) := by decide +kernel
theorem d_Snap_init_1 : decode b_Snap_init 1 = .ok (.invokespecial 3, 3) := by decide +kernel
theorem d_Snap_init_4 : decode b_Snap_init 4 = .ok (.aload_n 0, 1) := by decide +kernel
theorem d_Snap_init_5 : decode b_Snap_init 5 = .ok (.iconst 0, 1) := by decide +kernel
theorem d_Snap_init_6 : decode b_Snap_init 6 = .ok (.putfield 9, 3) := by decide +kernel
theorem d_Snap_init_9 : decode b_Snap_init 9 = .ok (.aload_n 0, 1) := by decide +kernel
theorem d_Snap_init_10 : decode b_Snap_init 10 = .ok (.iconst 0, 1) := by decide +kernel
theorem d_Snap_init_11 : decode b_Snap_init 11 = .ok (.putfield 15, 3) := by decide +kernel
theorem d_Snap_init_14 : decode b_Snap_init 14 = .ok (.aload_n 0, 1) := by decide +kernel
theorem d_Snap_init_15 : decode b_Snap_init 15 = .ok (.iconst 0, 1) := by decide +kernel
theorem d_Snap_init_16 : decode b_Snap_init 16 = .ok (.putfield 18, 3) := by decide +kernel
theorem d_Snap_init_19 : decode b_Snap_init 19 = .ok (.aload_n 0, 1) := by decide +kernel
theorem d_Snap_init_20 : decode b_Snap_init 20 = .ok (.iconst 0, 1) := by decide +kernel
theorem d_Snap_init_21 : decode b_Snap_init 21 = .ok (.putfield 21, 3) := by decide +kernel
theorem d_Snap_init_24 : decode b_Snap_init 24 = .ok (.aload_n 0, 1) := by decide +kernel
theorem d_Snap_init_25 : decode b_Snap_init 25 = .ok (.iconst 0, 1) := by decide +kernel
theorem d_Snap_init_26 : decode b_Snap_init 26 = .ok (.putfield 24, 3) := by decide +kernel
theorem d_Snap_init_29 : decode b_Snap_init 29 = .ok (.aload_n 0, 1) := by decide +kernel
theorem d_Snap_init_30 : decode b_Snap_init 30 = .ok (.iconst 0, 1) := by decide +kernel
theorem d_Snap_init_31 : decode b_Snap_init 31 = .ok (.putfield 27, 3) := by decide +kernel
theorem d_Snap_init_34 : decode b_Snap_init 34 = .ok (.aload_n 0, 1) := by decide +kernel
theorem d_Snap_init_35 : decode b_Snap_init 35 = .ok (.iconst 0, 1) := by decide +kernel
theorem d_Snap_init_36 : decode b_Snap_init 36 = .ok (.putfield 30, 3) := by decide +kernel
theorem d_Snap_init_39 : decode b_Snap_init 39 = .ok (.aload_n 0, 1) := by decide +kernel
theorem d_Snap_init_40 : decode b_Snap_init 40 = .ok (.bipush 40, 2) := by decide +kernel
theorem d_Snap_init_42 : decode b_Snap_init 42 = .ok (.newarray .int, 2) := by decide +kernel
theorem d_Snap_init_44 : decode b_Snap_init 44 = .ok (.putfield 33, 3) := by decide +kernel
theorem d_Snap_init_47 : decode b_Snap_init 47 = .ok (.aload_n 0, 1) := by decide +kernel
theorem d_Snap_init_48 : decode b_Snap_init 48 = .ok (.aload_n 1, 1) := by decide +kernel
theorem d_Snap_init_49 : decode b_Snap_init 49 = .ok (.putfield 37, 3) := by decide +kernel
theorem d_Snap_init_52 : decode b_Snap_init 52 = .ok (.aload_n 0, 1) := by decide +kernel
theorem d_Snap_init_53 : decode b_Snap_init 53 = .ok (.aload_n 2, 1) := by decide +kernel
theorem d_Snap_init_54 : decode b_Snap_init 54 = .ok (.putfield 41, 3) := by decide +kernel
theorem d_Snap_init_57 : decode b_Snap_init 57 = .ok (.aload_n 0, 1) := by decide +kernel
theorem d_Snap_init_58 : decode b_Snap_init 58 = .ok (.aload_n 3, 1) := by decide +kernel
theorem d_Snap_init_59 : decode b_Snap_init 59 = .ok (.putfield 45, 3) := by decide +kernel
theorem d_Snap_init_62 : decode b_Snap_init 62 = .ok (.aload_n 0, 1) := by decide +kernel
theorem d_Snap_init_63 : decode b_Snap_init 63 = .ok (.aload 4, 2) := by decide +kernel
theorem d_Snap_init_65 : decode b_Snap_init 65 = .ok (.putfield 49, 3) := by decide +kernel
theorem d_Snap_init_68 : decode b_Snap_init 68 = .ok (.return_, 1) := by decide +kernel
theorem d_Clo_init_0 : decode b_Clo_init 0 = .ok (.aload_n 0, 1) := by decide +kernel
theorem d_Clo_init_1 : decode b_Clo_init 1 = .ok (.invokespecial 3, 3) := by decide +kernel
theorem d_Clo_init_4 : decode b_Clo_init 4 = .ok (.aload_n 0, 1) := by decide +kernel
theorem d_Clo_init_5 : decode b_Clo_init 5 = .ok (.sipush 220, 3) := by decide +kernel
theorem d_Clo_init_8 : decode b_Clo_init 8 = .ok (.newarray .int, 2) := by decide +kernel
theorem d_Clo_init_10 : decode b_Clo_init 10 = .ok (.putfield 9, 3) := by decide +kernel
theorem d_Clo_init_13 : decode b_Clo_init 13 = .ok (.aload_n 0, 1) := by decide +kernel
theorem d_Clo_init_14 : decode b_Clo_init 14 = .ok (.sipush 220, 3) := by decide +kernel
theorem d_Clo_init_17 : decode b_Clo_init 17 = .ok (.newarray .int, 2) := by decide +kernel
theorem d_Clo_init_19 : decode b_Clo_init 19 = .ok (.putfield 15, 3) := by decide +kernel
theorem d_Clo_init_22 : decode b_Clo_init 22 = .ok (.aload_n 0, 1) := by decide +kernel
theorem d_Clo_init_23 : decode b_Clo_init 23 = .ok (.iconst 0, 1) := by decide +kernel
theorem d_Clo_init_24 : decode b_Clo_init 24 = .ok (.putfield 18, 3) := by decide +kernel
theorem d_Clo_init_27 : decode b_Clo_init 27 = .ok (.aload_n 0, 1) := by decide +kernel
theorem d_Clo_init_28 : decode b_Clo_init 28 = .ok (.aload_n 1, 1) := by decide +kernel
theorem d_Clo_init_29 : decode b_Clo_init 29 = .ok (.putfield 22, 3) := by decide +kernel
theorem d_Clo_init_32 : decode b_Clo_init 32 = .ok (.return_, 1) := by decide +kernel
theorem d_Reas_init_0 : decode b_Reas_init 0 = .ok (.aload_n 0, 1) := by decide +kernel
theorem d_Reas_init_1 : decode b_Reas_init 1 = .ok (.invokespecial 3, 3) := by decide +kernel
theorem d_Reas_init_4 : decode b_Reas_init 4 = .ok (.aload_n 0, 1) := by decide +kernel
theorem d_Reas_init_5 : decode b_Reas_init 5 = .ok (.aload_n 1, 1) := by decide +kernel
theorem d_Reas_init_6 : decode b_Reas_init 6 = .ok (.putfield 9, 3) := by decide +kernel
theorem d_Reas_init_9 : decode b_Reas_init 9 = .ok (.aload_n 0, 1) := by decide +kernel
theorem d_Reas_init_10 : decode b_Reas_init 10 = .ok (.aload_n 2, 1) := by decide +kernel
theorem d_Reas_init_11 : decode b_Reas_init 11 = .ok (.putfield 15, 3) := by decide +kernel
theorem d_Reas_init_14 : decode b_Reas_init 14 = .ok (.return_, 1) := by decide +kernel
theorem d_FU_init_0 : decode b_FU_init 0 = .ok (.aload_n 0, 1) := by decide +kernel
theorem d_FU_init_1 : decode b_FU_init 1 = .ok (.invokespecial 3, 3) := by decide +kernel
theorem d_FU_init_4 : decode b_FU_init 4 = .ok (.aload_n 0, 1) := by decide +kernel
theorem d_FU_init_5 : decode b_FU_init 5 = .ok (.new 9, 3) := by decide +kernel
theorem d_FU_init_8 : decode b_FU_init 8 = .ok (.dup, 1) := by decide +kernel
theorem d_FU_init_9 : decode b_FU_init 9 = .ok (.invokespecial 11, 3) := by decide +kernel
theorem d_FU_init_12 : decode b_FU_init 12 = .ok (.putfield 12, 3) := by decide +kernel
theorem d_FU_init_15 : decode b_FU_init 15 = .ok (.aload_n 0, 1) := by decide +kernel
theorem d_FU_init_16 : decode b_FU_init 16 = .ok (.new 16, 3) := by decide +kernel
theorem d_FU_init_19 : decode b_FU_init 19 = .ok (.dup, 1) := by decide +kernel
theorem d_FU_init_20 : decode b_FU_init 20 = .ok (.invokespecial 18, 3) := by decide +kernel
theorem d_FU_init_23 : decode b_FU_init 23 = .ok (.putfield 19, 3) := by decide +kernel
theorem d_FU_init_26 : decode b_FU_init 26 = .ok (.aload_n 0, 1) := by decide +kernel
theorem d_FU_init_27 : decode b_FU_init 27 = .ok (.new 23, 3) := by decide +kernel
theorem d_FU_init_30 : decode b_FU_init 30 = .ok (.dup, 1) := by decide +kernel
theorem d_FU_init_31 : decode b_FU_init 31 = .ok (.invokespecial 25, 3) := by decide +kernel
theorem d_FU_init_34 : decode b_FU_init 34 = .ok (.putfield 26, 3) := by decide +kernel
theorem d_FU_init_37 : decode b_FU_init 37 = .ok (.aload_n 0, 1) := by decide +kernel
theorem d_FU_init_38 : decode b_FU_init 38 = .ok (.new 30, 3) := by decide +kernel
theorem d_FU_init_41 : decode b_FU_init 41 = .ok (.dup, 1) := by decide +kernel
theorem d_FU_init_42 : decode b_FU_init 42 = .ok (.invokespecial 32, 3) := by decide +kernel
theorem d_FU_init_45 : decode b_FU_init 45 = .ok (.putfield 33, 3) := by decide +kernel
theorem d_FU_init_48 : decode b_FU_init 48 = .ok (.aload_n 0, 1) := by decide +kernel
theorem d_FU_init_49 : decode b_FU_init 49 = .ok (.new 37, 3) := by decide +kernel
theorem d_FU_init_52 : decode b_FU_init 52 = .ok (.dup, 1) := by decide +kernel
theorem d_FU_init_53 : decode b_FU_init 53 = .ok (.aload_n 0, 1) := by decide +kernel
theorem d_FU_init_54 : decode b_FU_init 54 = .ok (.getfield 12, 3) := by decide +kernel
theorem d_FU_init_57 : decode b_FU_init 57 = .ok (.aload_n 0, 1) := by decide +kernel
theorem d_FU_init_58 : decode b_FU_init 58 = .ok (.getfield 19, 3) := by decide +kernel
theorem d_FU_init_61 : decode b_FU_init 61 = .ok (.aload_n 0, 1) := by decide +kernel
theorem d_FU_init_62 : decode b_FU_init 62 = .ok (.getfield 26, 3) := by decide +kernel
theorem d_FU_init_65 : decode b_FU_init 65 = .ok (.aload_n 0, 1) := by decide +kernel
theorem d_FU_init_66 : decode b_FU_init 66 = .ok (.getfield 33, 3) := by decide +kernel
theorem d_FU_init_69 : decode b_FU_init 69 = .ok (.invokespecial 39, 3) := by decide +kernel
theorem d_FU_init_72 : decode b_FU_init 72 = .ok (.putfield 42, 3) := by decide +kernel
theorem d_FU_init_75 : decode b_FU_init 75 = .ok (.aload_n 0, 1) := by decide +kernel
theorem d_FU_init_76 : decode b_FU_init 76 = .ok (.new 46, 3) := by decide +kernel
theorem d_FU_init_79 : decode b_FU_init 79 = .ok (.dup, 1) := by decide +kernel
theorem d_FU_init_80 : decode b_FU_init 80 = .ok (.aload_n 0, 1) := by decide +kernel
theorem d_FU_init_81 : decode b_FU_init 81 = .ok (.getfield 42, 3) := by decide +kernel
theorem d_FU_init_84 : decode b_FU_init 84 = .ok (.invokespecial 48, 3) := by decide +kernel
theorem d_FU_init_87 : decode b_FU_init 87 = .ok (.putfield 51, 3) := by decide +kernel
theorem d_FU_init_90 : decode b_FU_init 90 = .ok (.aload_n 0, 1) := by decide +kernel
theorem d_FU_init_91 : decode b_FU_init 91 = .ok (.new 46, 3) := by decide +kernel
theorem d_FU_init_94 : decode b_FU_init 94 = .ok (.dup, 1) := by decide +kernel
theorem d_FU_init_95 : decode b_FU_init 95 = .ok (.aload_n 0, 1) := by decide +kernel
theorem d_FU_init_96 : decode b_FU_init 96 = .ok (.getfield 42, 3) := by decide +kernel
theorem d_FU_init_99 : decode b_FU_init 99 = .ok (.invokespecial 48, 3) := by decide +kernel
theorem d_FU_init_102 : decode b_FU_init 102 = .ok (.putfield 55, 3) := by decide +kernel
theorem d_FU_init_105 : decode b_FU_init 105 = .ok (.aload_n 0, 1) := by decide +kernel
theorem d_FU_init_106 : decode b_FU_init 106 = .ok (.new 58, 3) := by decide +kernel
theorem d_FU_init_109 : decode b_FU_init 109 = .ok (.dup, 1) := by decide +kernel
theorem d_FU_init_110 : decode b_FU_init 110 = .ok (.aload_n 0, 1) := by decide +kernel
theorem d_FU_init_111 : decode b_FU_init 111 = .ok (.getfield 42, 3) := by decide +kernel
theorem d_FU_init_114 : decode b_FU_init 114 = .ok (.aload_n 0, 1) := by decide +kernel
theorem d_FU_init_115 : decode b_FU_init 115 = .ok (.getfield 51, 3) := by decide +kernel
theorem d_FU_init_118 : decode b_FU_init 118 = .ok (.invokespecial 60, 3) := by decide +kernel
theorem d_FU_init_121 : decode b_FU_init 121 = .ok (.putfield 63, 3) := by decide +kernel
theorem d_FU_init_124 : decode b_FU_init 124 = .ok (.aload_n 0, 1) := by decide +kernel
theorem d_FU_init_125 : decode b_FU_init 125 = .ok (.bipush 120, 2) := by decide +kernel
theorem d_FU_init_127 : decode b_FU_init 127 = .ok (.newarray .int, 2) := by decide +kernel
theorem d_FU_init_129 : decode b_FU_init 129 = .ok (.putfield 67, 3) := by decide +kernel
theorem d_FU_init_132 : decode b_FU_init 132 = .ok (.aload_n 0, 1) := by decide +kernel
theorem d_FU_init_133 : decode b_FU_init 133 = .ok (.iconst 0, 1) := by decide +kernel
theorem d_FU_init_134 : decode b_FU_init 134 = .ok (.putfield 71, 3) := by decide +kernel
theorem d_FU_init_137 : decode b_FU_init 137 = .ok (.aload_n 0, 1) := by decide +kernel
theorem d_FU_init_138 : decode b_FU_init 138 = .ok (.iconst 0, 1) := by decide +kernel
theorem d_FU_init_139 : decode b_FU_init 139 = .ok (.putfield 75, 3) := by decide +kernel
theorem d_FU_init_142 : decode b_FU_init 142 = .ok (.return_, 1) := by decide +kernel
theorem d_Packs_add_0 : decode b_Packs_add 0 = .ok (.aload_n 0, 1) := by decide +kernel
theorem d_Packs_add_1 : decode b_Packs_add 1 = .ok (.getfield 21, 3) := by decide +kernel
theorem d_Packs_add_4 : decode b_Packs_add 4 = .ok (.aload_n 0, 1) := by decide +kernel
theorem d_Packs_add_5 : decode b_Packs_add 5 = .ok (.getfield 9, 3) := by decide +kernel
theorem d_Packs_add_8 : decode b_Packs_add 8 = .ok (.iload_n 1, 1) := by decide +kernel
theorem d_Packs_add_9 : decode b_Packs_add 9 = .ok (.bastore, 1) := by decide +kernel
theorem d_Packs_add_10 : decode b_Packs_add 10 = .ok (.aload_n 0, 1) := by decide +kernel
theorem d_Packs_add_11 : decode b_Packs_add 11 = .ok (.dup, 1) := by decide +kernel
theorem d_Packs_add_12 : decode b_Packs_add 12 = .ok (.getfield 9, 3) := by decide +kernel
theorem d_Packs_add_15 : decode b_Packs_add 15 = .ok (.iconst 1, 1) := by decide +kernel
theorem d_Packs_add_16 : decode b_Packs_add 16 = .ok (.iadd, 1) := by decide +kernel
theorem d_Packs_add_17 : decode b_Packs_add 17 = .ok (.putfield 9, 3) := by decide +kernel
theorem d_Packs_add_20 : decode b_Packs_add 20 = .ok (.aload_n 0, 1) := by decide +kernel
theorem d_Packs_add_21 : decode b_Packs_add 21 = .ok (.getfield 9, 3) := by decide +kernel
theorem d_Packs_add_24 : decode b_Packs_add 24 = .ok (.iconst 1, 1) := by decide +kernel
theorem d_Packs_add_25 : decode b_Packs_add 25 = .ok (.isub, 1) := by decide +kernel
theorem d_Packs_add_26 : decode b_Packs_add 26 = .ok (.ireturn, 1) := by decide +kernel
theorem d_FU_pack_0 : decode b_FU_pack 0 = .ok (.aload_n 0, 1) := by decide +kernel
theorem d_FU_pack_1 : decode b_FU_pack 1 = .ok (.getfield 12, 3) := by decide +kernel
theorem d_FU_pack_4 : decode b_FU_pack 4 = .ok (.getfield 79, 3) := by decide +kernel
theorem d_FU_pack_7 : decode b_FU_pack 7 = .ok (.bipush 10, 2) := by decide +kernel
theorem d_FU_pack_9 : decode b_FU_pack 9 = .ok (.if_icmp .lt 5, 3) := by decide +kernel
theorem d_FU_pack_12 : decode b_FU_pack 12 = .ok (.iconst (-1), 1) := by decide +kernel
theorem d_FU_pack_13 : decode b_FU_pack 13 = .ok (.ireturn, 1) := by decide +kernel
theorem d_FU_pack_14 : decode b_FU_pack 14 = .ok (.aload_n 0, 1) := by decide +kernel
theorem d_FU_pack_15 : decode b_FU_pack 15 = .ok (.iconst 0, 1) := by decide +kernel
theorem d_FU_pack_16 : decode b_FU_pack 16 = .ok (.putfield 75, 3) := by decide +kernel
theorem d_FU_pack_19 : decode b_FU_pack 19 = .ok (.aload_n 0, 1) := by decide +kernel
theorem d_FU_pack_20 : decode b_FU_pack 20 = .ok (.getfield 12, 3) := by decide +kernel
theorem d_FU_pack_23 : decode b_FU_pack 23 = .ok (.iload_n 1, 1) := by decide +kernel
theorem d_FU_pack_24 : decode b_FU_pack 24 = .ok (.invokevirtual 82, 3) := by decide +kernel
theorem d_FU_pack_27 : decode b_FU_pack 27 = .ok (.ireturn, 1) := by decide +kernel
theorem d_FU_within_0 : decode b_FU_within 0 = .ok (.iload_n 0, 1) := by decide +kernel
theorem d_FU_within_1 : decode b_FU_within 1 = .ok (.ifCond .lt 12, 3) := by decide +kernel
theorem d_FU_within_4 : decode b_FU_within 4 = .ok (.iload_n 0, 1) := by decide +kernel
theorem d_FU_within_5 : decode b_FU_within 5 = .ok (.iload_n 1, 1) := by decide +kernel
theorem d_FU_within_6 : decode b_FU_within 6 = .ok (.if_icmp .ge 7, 3) := by decide +kernel
theorem d_FU_within_9 : decode b_FU_within 9 = .ok (.iconst 1, 1) := by decide +kernel
theorem d_FU_within_10 : decode b_FU_within 10 = .ok (.goto 4, 3) := by decide +kernel
theorem d_FU_within_13 : decode b_FU_within 13 = .ok (.iconst 0, 1) := by decide +kernel
theorem d_FU_within_14 : decode b_FU_within 14 = .ok (.ireturn, 1) := by decide +kernel
theorem d_Packs_has_0 : decode b_Packs_has 0 = .ok (.iload_n 1, 1) := by decide +kernel
theorem d_Packs_has_1 : decode b_Packs_has 1 = .ok (.aload_n 0, 1) := by decide +kernel
theorem d_Packs_has_2 : decode b_Packs_has 2 = .ok (.getfield 9, 3) := by decide +kernel
theorem d_Packs_has_5 : decode b_Packs_has 5 = .ok (.invokestatic 25, 3) := by decide +kernel
theorem d_Packs_has_8 : decode b_Packs_has 8 = .ok (.ireturn, 1) := by decide +kernel
theorem d_Feats_find_0 : decode b_Feats_find 0 = .ok (.iconst 0, 1) := by decide +kernel
theorem d_Feats_find_1 : decode b_Feats_find 1 = .ok (.istore_n 3, 1) := by decide +kernel
theorem d_Feats_find_2 : decode b_Feats_find 2 = .ok (.iload_n 3, 1) := by decide +kernel
theorem d_Feats_find_3 : decode b_Feats_find 3 = .ok (.aload_n 0, 1) := by decide +kernel
theorem d_Feats_find_4 : decode b_Feats_find 4 = .ok (.getfield 9, 3) := by decide +kernel
theorem d_Feats_find_7 : decode b_Feats_find 7 = .ok (.if_icmp .ge 31, 3) := by decide +kernel
theorem d_Feats_find_10 : decode b_Feats_find 10 = .ok (.aload_n 0, 1) := by decide +kernel
theorem d_Feats_find_11 : decode b_Feats_find 11 = .ok (.getfield 15, 3) := by decide +kernel
theorem d_Feats_find_14 : decode b_Feats_find 14 = .ok (.iload_n 3, 1) := by decide +kernel
theorem d_Feats_find_15 : decode b_Feats_find 15 = .ok (.iaload, 1) := by decide +kernel
theorem d_Feats_find_16 : decode b_Feats_find 16 = .ok (.iload_n 1, 1) := by decide +kernel
theorem d_Feats_find_17 : decode b_Feats_find 17 = .ok (.if_icmp .ne 15, 3) := by decide +kernel
theorem d_Feats_find_20 : decode b_Feats_find 20 = .ok (.aload_n 0, 1) := by decide +kernel
theorem d_Feats_find_21 : decode b_Feats_find 21 = .ok (.getfield 19, 3) := by decide +kernel
theorem d_Feats_find_24 : decode b_Feats_find 24 = .ok (.iload_n 3, 1) := by decide +kernel
theorem d_Feats_find_25 : decode b_Feats_find 25 = .ok (.iaload, 1) := by decide +kernel
theorem d_Feats_find_26 : decode b_Feats_find 26 = .ok (.iload_n 2, 1) := by decide +kernel
theorem d_Feats_find_27 : decode b_Feats_find 27 = .ok (.if_icmp .ne 5, 3) := by decide +kernel
theorem d_Feats_find_30 : decode b_Feats_find 30 = .ok (.iload_n 3, 1) := by decide +kernel
theorem d_Feats_find_31 : decode b_Feats_find 31 = .ok (.ireturn, 1) := by decide +kernel
theorem d_Feats_find_32 : decode b_Feats_find 32 = .ok (.iinc 3 1, 3) := by decide +kernel
theorem d_Feats_find_35 : decode b_Feats_find 35 = .ok (.goto (-33), 3) := by decide +kernel
theorem d_Feats_find_38 : decode b_Feats_find 38 = .ok (.iconst (-1), 1) := by decide +kernel
theorem d_Feats_find_39 : decode b_Feats_find 39 = .ok (.ireturn, 1) := by decide +kernel
theorem d_Feats_countOf_0 : decode b_Feats_countOf 0 = .ok (.iconst 0, 1) := by decide +kernel
theorem d_Feats_countOf_1 : decode b_Feats_countOf 1 = .ok (.istore_n 2, 1) := by decide +kernel
theorem d_Feats_countOf_2 : decode b_Feats_countOf 2 = .ok (.iconst 0, 1) := by decide +kernel
theorem d_Feats_countOf_3 : decode b_Feats_countOf 3 = .ok (.istore_n 3, 1) := by decide +kernel
theorem d_Feats_countOf_4 : decode b_Feats_countOf 4 = .ok (.iload_n 3, 1) := by decide +kernel
theorem d_Feats_countOf_5 : decode b_Feats_countOf 5 = .ok (.aload_n 0, 1) := by decide +kernel
theorem d_Feats_countOf_6 : decode b_Feats_countOf 6 = .ok (.getfield 9, 3) := by decide +kernel
theorem d_Feats_countOf_9 : decode b_Feats_countOf 9 = .ok (.if_icmp .ge 22, 3) := by decide +kernel
theorem d_Feats_countOf_12 : decode b_Feats_countOf 12 = .ok (.aload_n 0, 1) := by decide +kernel
theorem d_Feats_countOf_13 : decode b_Feats_countOf 13 = .ok (.getfield 15, 3) := by decide +kernel
theorem d_Feats_countOf_16 : decode b_Feats_countOf 16 = .ok (.iload_n 3, 1) := by decide +kernel
theorem d_Feats_countOf_17 : decode b_Feats_countOf 17 = .ok (.iaload, 1) := by decide +kernel
theorem d_Feats_countOf_18 : decode b_Feats_countOf 18 = .ok (.iload_n 1, 1) := by decide +kernel
theorem d_Feats_countOf_19 : decode b_Feats_countOf 19 = .ok (.if_icmp .ne 6, 3) := by decide +kernel
theorem d_Feats_countOf_22 : decode b_Feats_countOf 22 = .ok (.iinc 2 1, 3) := by decide +kernel
theorem d_Feats_countOf_25 : decode b_Feats_countOf 25 = .ok (.iinc 3 1, 3) := by decide +kernel
theorem d_Feats_countOf_28 : decode b_Feats_countOf 28 = .ok (.goto (-24), 3) := by decide +kernel
theorem d_Feats_countOf_31 : decode b_Feats_countOf 31 = .ok (.iload_n 2, 1) := by decide +kernel
theorem d_Feats_countOf_32 : decode b_Feats_countOf 32 = .ok (.ireturn, 1) := by decide +kernel
theorem d_Feats_add_0 : decode b_Feats_add 0 = .ok (.aload_n 0, 1) := by decide +kernel
theorem d_Feats_add_1 : decode b_Feats_add 1 = .ok (.getfield 15, 3) := by decide +kernel
theorem d_Feats_add_4 : decode b_Feats_add 4 = .ok (.aload_n 0, 1) := by decide +kernel
theorem d_Feats_add_5 : decode b_Feats_add 5 = .ok (.getfield 9, 3) := by decide +kernel
theorem d_Feats_add_8 : decode b_Feats_add 8 = .ok (.iload_n 1, 1) := by decide +kernel
theorem d_Feats_add_9 : decode b_Feats_add 9 = .ok (.iastore, 1) := by decide +kernel
theorem d_Feats_add_10 : decode b_Feats_add 10 = .ok (.aload_n 0, 1) := by decide +kernel
theorem d_Feats_add_11 : decode b_Feats_add 11 = .ok (.getfield 19, 3) := by decide +kernel
theorem d_Feats_add_14 : decode b_Feats_add 14 = .ok (.aload_n 0, 1) := by decide +kernel
theorem d_Feats_add_15 : decode b_Feats_add 15 = .ok (.getfield 9, 3) := by decide +kernel
theorem d_Feats_add_18 : decode b_Feats_add 18 = .ok (.iload_n 2, 1) := by decide +kernel
theorem d_Feats_add_19 : decode b_Feats_add 19 = .ok (.iastore, 1) := by decide +kernel
theorem d_Feats_add_20 : decode b_Feats_add 20 = .ok (.aload_n 0, 1) := by decide +kernel
theorem d_Feats_add_21 : decode b_Feats_add 21 = .ok (.getfield 22, 3) := by decide +kernel
theorem d_Feats_add_24 : decode b_Feats_add 24 = .ok (.aload_n 0, 1) := by decide +kernel
theorem d_Feats_add_25 : decode b_Feats_add 25 = .ok (.getfield 9, 3) := by decide +kernel
theorem d_Feats_add_28 : decode b_Feats_add 28 = .ok (.iload 4, 2) := by decide +kernel
theorem d_Feats_add_30 : decode b_Feats_add 30 = .ok (.iastore, 1) := by decide +kernel
theorem d_Feats_add_31 : decode b_Feats_add 31 = .ok (.aload_n 0, 1) := by decide +kernel
theorem d_Feats_add_32 : decode b_Feats_add 32 = .ok (.getfield 25, 3) := by decide +kernel
theorem d_Feats_add_35 : decode b_Feats_add 35 = .ok (.aload_n 0, 1) := by decide +kernel
theorem d_Feats_add_36 : decode b_Feats_add 36 = .ok (.getfield 9, 3) := by decide +kernel
theorem d_Feats_add_39 : decode b_Feats_add 39 = .ok (.iload_n 3, 1) := by decide +kernel
theorem d_Feats_add_40 : decode b_Feats_add 40 = .ok (.bastore, 1) := by decide +kernel
theorem d_Feats_add_41 : decode b_Feats_add 41 = .ok (.aload_n 0, 1) := by decide +kernel
theorem d_Feats_add_42 : decode b_Feats_add 42 = .ok (.dup, 1) := by decide +kernel
theorem d_Feats_add_43 : decode b_Feats_add 43 = .ok (.getfield 9, 3) := by decide +kernel
theorem d_Feats_add_46 : decode b_Feats_add 46 = .ok (.iconst 1, 1) := by decide +kernel
theorem d_Feats_add_47 : decode b_Feats_add 47 = .ok (.iadd, 1) := by decide +kernel
theorem d_Feats_add_48 : decode b_Feats_add 48 = .ok (.putfield 9, 3) := by decide +kernel
theorem d_Feats_add_51 : decode b_Feats_add 51 = .ok (.aload_n 0, 1) := by decide +kernel
theorem d_Feats_add_52 : decode b_Feats_add 52 = .ok (.getfield 9, 3) := by decide +kernel
theorem d_Feats_add_55 : decode b_Feats_add 55 = .ok (.iconst 1, 1) := by decide +kernel
theorem d_Feats_add_56 : decode b_Feats_add 56 = .ok (.isub, 1) := by decide +kernel
theorem d_Feats_add_57 : decode b_Feats_add 57 = .ok (.ireturn, 1) := by decide +kernel
theorem d_FU_feature_0 : decode b_FU_feature 0 = .ok (.aload_n 0, 1) := by decide +kernel
theorem d_FU_feature_1 : decode b_FU_feature 1 = .ok (.getfield 12, 3) := by decide +kernel
theorem d_FU_feature_4 : decode b_FU_feature 4 = .ok (.iload_n 1, 1) := by decide +kernel
theorem d_FU_feature_5 : decode b_FU_feature 5 = .ok (.invokevirtual 86, 3) := by decide +kernel
theorem d_FU_feature_8 : decode b_FU_feature 8 = .ok (.ifCond .eq 22, 3) := by decide +kernel
theorem d_FU_feature_11 : decode b_FU_feature 11 = .ok (.iload_n 2, 1) := by decide +kernel
theorem d_FU_feature_12 : decode b_FU_feature 12 = .ok (.bipush 32, 2) := by decide +kernel
theorem d_FU_feature_14 : decode b_FU_feature 14 = .ok (.invokestatic 90, 3) := by decide +kernel
theorem d_FU_feature_17 : decode b_FU_feature 17 = .ok (.ifCond .eq 13, 3) := by decide +kernel
theorem d_FU_feature_20 : decode b_FU_feature 20 = .ok (.iload 4, 2) := by decide +kernel
theorem d_FU_feature_22 : decode b_FU_feature 22 = .ok (.bipush 8, 2) := by decide +kernel
theorem d_FU_feature_24 : decode b_FU_feature 24 = .ok (.invokestatic 90, 3) := by decide +kernel
theorem d_FU_feature_27 : decode b_FU_feature 27 = .ok (.ifCond .ne 5, 3) := by decide +kernel
theorem d_FU_feature_30 : decode b_FU_feature 30 = .ok (.iconst (-1), 1) := by decide +kernel
theorem d_FU_feature_31 : decode b_FU_feature 31 = .ok (.ireturn, 1) := by decide +kernel
theorem d_FU_feature_32 : decode b_FU_feature 32 = .ok (.aload_n 0, 1) := by decide +kernel
theorem d_FU_feature_33 : decode b_FU_feature 33 = .ok (.getfield 19, 3) := by decide +kernel
theorem d_FU_feature_36 : decode b_FU_feature 36 = .ok (.iload_n 1, 1) := by decide +kernel
theorem d_FU_feature_37 : decode b_FU_feature 37 = .ok (.iload_n 2, 1) := by decide +kernel
theorem d_FU_feature_38 : decode b_FU_feature 38 = .ok (.invokevirtual 94, 3) := by decide +kernel
theorem d_FU_feature_41 : decode b_FU_feature 41 = .ok (.iconst (-1), 1) := by decide +kernel
theorem d_FU_feature_42 : decode b_FU_feature 42 = .ok (.if_icmp .ne 28, 3) := by decide +kernel
theorem d_FU_feature_45 : decode b_FU_feature 45 = .ok (.aload_n 0, 1) := by decide +kernel
theorem d_FU_feature_46 : decode b_FU_feature 46 = .ok (.getfield 19, 3) := by decide +kernel
theorem d_FU_feature_49 : decode b_FU_feature 49 = .ok (.iload_n 1, 1) := by decide +kernel
theorem d_FU_feature_50 : decode b_FU_feature 50 = .ok (.invokevirtual 98, 3) := by decide +kernel
theorem d_FU_feature_53 : decode b_FU_feature 53 = .ok (.bipush 10, 2) := by decide +kernel
theorem d_FU_feature_55 : decode b_FU_feature 55 = .ok (.if_icmp .ge 15, 3) := by decide +kernel
theorem d_FU_feature_58 : decode b_FU_feature 58 = .ok (.aload_n 0, 1) := by decide +kernel
theorem d_FU_feature_59 : decode b_FU_feature 59 = .ok (.getfield 19, 3) := by decide +kernel
theorem d_FU_feature_62 : decode b_FU_feature 62 = .ok (.getfield 102, 3) := by decide +kernel
theorem d_FU_feature_65 : decode b_FU_feature 65 = .ok (.bipush 60, 2) := by decide +kernel
theorem d_FU_feature_67 : decode b_FU_feature 67 = .ok (.if_icmp .lt 5, 3) := by decide +kernel
theorem d_FU_feature_70 : decode b_FU_feature 70 = .ok (.iconst (-1), 1) := by decide +kernel
theorem d_FU_feature_71 : decode b_FU_feature 71 = .ok (.ireturn, 1) := by decide +kernel
theorem d_FU_feature_72 : decode b_FU_feature 72 = .ok (.aload_n 0, 1) := by decide +kernel
theorem d_FU_feature_73 : decode b_FU_feature 73 = .ok (.iconst 0, 1) := by decide +kernel
theorem d_FU_feature_74 : decode b_FU_feature 74 = .ok (.putfield 75, 3) := by decide +kernel
theorem d_FU_feature_77 : decode b_FU_feature 77 = .ok (.aload_n 0, 1) := by decide +kernel
theorem d_FU_feature_78 : decode b_FU_feature 78 = .ok (.getfield 19, 3) := by decide +kernel
theorem d_FU_feature_81 : decode b_FU_feature 81 = .ok (.iload_n 1, 1) := by decide +kernel
theorem d_FU_feature_82 : decode b_FU_feature 82 = .ok (.iload_n 2, 1) := by decide +kernel
theorem d_FU_feature_83 : decode b_FU_feature 83 = .ok (.iload_n 3, 1) := by decide +kernel
theorem d_FU_feature_84 : decode b_FU_feature 84 = .ok (.iload 4, 2) := by decide +kernel
theorem d_FU_feature_86 : decode b_FU_feature 86 = .ok (.invokevirtual 103, 3) := by decide +kernel
theorem d_FU_feature_89 : decode b_FU_feature 89 = .ok (.ireturn, 1) := by decide +kernel
theorem d_FU_bit_0 : decode b_FU_bit 0 = .ok (.iload_n 0, 1) := by decide +kernel
theorem d_FU_bit_1 : decode b_FU_bit 1 = .ok (.iload_n 1, 1) := by decide +kernel
theorem d_FU_bit_2 : decode b_FU_bit 2 = .ok (.ishr, 1) := by decide +kernel
theorem d_FU_bit_3 : decode b_FU_bit 3 = .ok (.iconst 1, 1) := by decide +kernel
theorem d_FU_bit_4 : decode b_FU_bit 4 = .ok (.iand, 1) := by decide +kernel
theorem d_FU_bit_5 : decode b_FU_bit 5 = .ok (.iconst 1, 1) := by decide +kernel
theorem d_FU_bit_6 : decode b_FU_bit 6 = .ok (.if_icmp .ne 7, 3) := by decide +kernel
theorem d_FU_bit_9 : decode b_FU_bit 9 = .ok (.iconst 1, 1) := by decide +kernel
theorem d_FU_bit_10 : decode b_FU_bit 10 = .ok (.goto 4, 3) := by decide +kernel
theorem d_FU_bit_13 : decode b_FU_bit 13 = .ok (.iconst 0, 1) := by decide +kernel
theorem d_FU_bit_14 : decode b_FU_bit 14 = .ok (.ireturn, 1) := by decide +kernel
theorem d_Packs_makeRoot_0 : decode b_Packs_makeRoot 0 = .ok (.aload_n 0, 1) := by decide +kernel
theorem d_Packs_makeRoot_1 : decode b_Packs_makeRoot 1 = .ok (.dup, 1) := by decide +kernel
theorem d_Packs_makeRoot_2 : decode b_Packs_makeRoot 2 = .ok (.getfield 15, 3) := by decide +kernel
theorem d_Packs_makeRoot_5 : decode b_Packs_makeRoot 5 = .ok (.iconst 1, 1) := by decide +kernel
theorem d_Packs_makeRoot_6 : decode b_Packs_makeRoot 6 = .ok (.iload_n 1, 1) := by decide +kernel
theorem d_Packs_makeRoot_7 : decode b_Packs_makeRoot 7 = .ok (.ishl, 1) := by decide +kernel
theorem d_Packs_makeRoot_8 : decode b_Packs_makeRoot 8 = .ok (.ior, 1) := by decide +kernel
theorem d_Packs_makeRoot_9 : decode b_Packs_makeRoot 9 = .ok (.putfield 15, 3) := by decide +kernel
theorem d_Packs_makeRoot_12 : decode b_Packs_makeRoot 12 = .ok (.iload_n 2, 1) := by decide +kernel
theorem d_Packs_makeRoot_13 : decode b_Packs_makeRoot 13 = .ok (.ifCond .eq 15, 3) := by decide +kernel
theorem d_Packs_makeRoot_16 : decode b_Packs_makeRoot 16 = .ok (.aload_n 0, 1) := by decide +kernel
theorem d_Packs_makeRoot_17 : decode b_Packs_makeRoot 17 = .ok (.dup, 1) := by decide +kernel
theorem d_Packs_makeRoot_18 : decode b_Packs_makeRoot 18 = .ok (.getfield 18, 3) := by decide +kernel
theorem d_Packs_makeRoot_21 : decode b_Packs_makeRoot 21 = .ok (.iconst 1, 1) := by decide +kernel
theorem d_Packs_makeRoot_22 : decode b_Packs_makeRoot 22 = .ok (.iload_n 1, 1) := by decide +kernel
theorem d_Packs_makeRoot_23 : decode b_Packs_makeRoot 23 = .ok (.ishl, 1) := by decide +kernel
theorem d_Packs_makeRoot_24 : decode b_Packs_makeRoot 24 = .ok (.ior, 1) := by decide +kernel
theorem d_Packs_makeRoot_25 : decode b_Packs_makeRoot 25 = .ok (.putfield 18, 3) := by decide +kernel
theorem d_Packs_makeRoot_28 : decode b_Packs_makeRoot 28 = .ok (.return_, 1) := by decide +kernel
theorem d_FU_root_0 : decode b_FU_root 0 = .ok (.aload_n 0, 1) := by decide +kernel
theorem d_FU_root_1 : decode b_FU_root 1 = .ok (.getfield 12, 3) := by decide +kernel
theorem d_FU_root_4 : decode b_FU_root 4 = .ok (.iload_n 1, 1) := by decide +kernel
theorem d_FU_root_5 : decode b_FU_root 5 = .ok (.invokevirtual 86, 3) := by decide +kernel
theorem d_FU_root_8 : decode b_FU_root 8 = .ok (.ifCond .eq 17, 3) := by decide +kernel
theorem d_FU_root_11 : decode b_FU_root 11 = .ok (.aload_n 0, 1) := by decide +kernel
theorem d_FU_root_12 : decode b_FU_root 12 = .ok (.getfield 12, 3) := by decide +kernel
theorem d_FU_root_15 : decode b_FU_root 15 = .ok (.getfield 106, 3) := by decide +kernel
theorem d_FU_root_18 : decode b_FU_root 18 = .ok (.iload_n 1, 1) := by decide +kernel
theorem d_FU_root_19 : decode b_FU_root 19 = .ok (.invokestatic 109, 3) := by decide +kernel
theorem d_FU_root_22 : decode b_FU_root 22 = .ok (.ifCond .eq 5, 3) := by decide +kernel
theorem d_FU_root_25 : decode b_FU_root 25 = .ok (.iconst 0, 1) := by decide +kernel
theorem d_FU_root_26 : decode b_FU_root 26 = .ok (.ireturn, 1) := by decide +kernel
theorem d_FU_root_27 : decode b_FU_root 27 = .ok (.aload_n 0, 1) := by decide +kernel
theorem d_FU_root_28 : decode b_FU_root 28 = .ok (.iconst 0, 1) := by decide +kernel
theorem d_FU_root_29 : decode b_FU_root 29 = .ok (.putfield 75, 3) := by decide +kernel
theorem d_FU_root_32 : decode b_FU_root 32 = .ok (.aload_n 0, 1) := by decide +kernel
theorem d_FU_root_33 : decode b_FU_root 33 = .ok (.getfield 12, 3) := by decide +kernel
theorem d_FU_root_36 : decode b_FU_root 36 = .ok (.iload_n 1, 1) := by decide +kernel
theorem d_FU_root_37 : decode b_FU_root 37 = .ok (.iload_n 2, 1) := by decide +kernel
theorem d_FU_root_38 : decode b_FU_root 38 = .ok (.invokevirtual 112, 3) := by decide +kernel
theorem d_FU_root_41 : decode b_FU_root 41 = .ok (.iconst 1, 1) := by decide +kernel
theorem d_FU_root_42 : decode b_FU_root 42 = .ok (.ireturn, 1) := by decide +kernel
theorem d_Users_add_0 : decode b_Users_add 0 = .ok (.aload_n 0, 1) := by decide +kernel
theorem d_Users_add_1 : decode b_Users_add 1 = .ok (.getfield 15, 3) := by decide +kernel
theorem d_Users_add_4 : decode b_Users_add 4 = .ok (.aload_n 0, 1) := by decide +kernel
theorem d_Users_add_5 : decode b_Users_add 5 = .ok (.getfield 9, 3) := by decide +kernel
theorem d_Users_add_8 : decode b_Users_add 8 = .ok (.iload_n 1, 1) := by decide +kernel
theorem d_Users_add_9 : decode b_Users_add 9 = .ok (.iastore, 1) := by decide +kernel
theorem d_Users_add_10 : decode b_Users_add 10 = .ok (.aload_n 0, 1) := by decide +kernel
theorem d_Users_add_11 : decode b_Users_add 11 = .ok (.getfield 19, 3) := by decide +kernel
theorem d_Users_add_14 : decode b_Users_add 14 = .ok (.aload_n 0, 1) := by decide +kernel
theorem d_Users_add_15 : decode b_Users_add 15 = .ok (.getfield 9, 3) := by decide +kernel
theorem d_Users_add_18 : decode b_Users_add 18 = .ok (.iload_n 2, 1) := by decide +kernel
theorem d_Users_add_19 : decode b_Users_add 19 = .ok (.iastore, 1) := by decide +kernel
theorem d_Users_add_20 : decode b_Users_add 20 = .ok (.aload_n 0, 1) := by decide +kernel
theorem d_Users_add_21 : decode b_Users_add 21 = .ok (.getfield 28, 3) := by decide +kernel
theorem d_Users_add_24 : decode b_Users_add 24 = .ok (.aload_n 0, 1) := by decide +kernel
theorem d_Users_add_25 : decode b_Users_add 25 = .ok (.getfield 9, 3) := by decide +kernel
theorem d_Users_add_28 : decode b_Users_add 28 = .ok (.iload_n 3, 1) := by decide +kernel
theorem d_Users_add_29 : decode b_Users_add 29 = .ok (.bastore, 1) := by decide +kernel
theorem d_Users_add_30 : decode b_Users_add 30 = .ok (.aload_n 0, 1) := by decide +kernel
theorem d_Users_add_31 : decode b_Users_add 31 = .ok (.getfield 32, 3) := by decide +kernel
theorem d_Users_add_34 : decode b_Users_add 34 = .ok (.aload_n 0, 1) := by decide +kernel
theorem d_Users_add_35 : decode b_Users_add 35 = .ok (.getfield 9, 3) := by decide +kernel
theorem d_Users_add_38 : decode b_Users_add 38 = .ok (.iload 4, 2) := by decide +kernel
theorem d_Users_add_40 : decode b_Users_add 40 = .ok (.bastore, 1) := by decide +kernel
theorem d_Users_add_41 : decode b_Users_add 41 = .ok (.aload_n 0, 1) := by decide +kernel
theorem d_Users_add_42 : decode b_Users_add 42 = .ok (.getfield 35, 3) := by decide +kernel
theorem d_Users_add_45 : decode b_Users_add 45 = .ok (.aload_n 0, 1) := by decide +kernel
theorem d_Users_add_46 : decode b_Users_add 46 = .ok (.getfield 9, 3) := by decide +kernel
theorem d_Users_add_49 : decode b_Users_add 49 = .ok (.iload 5, 2) := by decide +kernel
theorem d_Users_add_51 : decode b_Users_add 51 = .ok (.bastore, 1) := by decide +kernel
theorem d_Users_add_52 : decode b_Users_add 52 = .ok (.aload_n 0, 1) := by decide +kernel
theorem d_Users_add_53 : decode b_Users_add 53 = .ok (.getfield 22, 3) := by decide +kernel
theorem d_Users_add_56 : decode b_Users_add 56 = .ok (.aload_n 0, 1) := by decide +kernel
theorem d_Users_add_57 : decode b_Users_add 57 = .ok (.getfield 9, 3) := by decide +kernel
theorem d_Users_add_60 : decode b_Users_add 60 = .ok (.iload 6, 2) := by decide +kernel
theorem d_Users_add_62 : decode b_Users_add 62 = .ok (.iastore, 1) := by decide +kernel
theorem d_Users_add_63 : decode b_Users_add 63 = .ok (.aload_n 0, 1) := by decide +kernel
theorem d_Users_add_64 : decode b_Users_add 64 = .ok (.dup, 1) := by decide +kernel
theorem d_Users_add_65 : decode b_Users_add 65 = .ok (.getfield 9, 3) := by decide +kernel
theorem d_Users_add_68 : decode b_Users_add 68 = .ok (.iconst 1, 1) := by decide +kernel
theorem d_Users_add_69 : decode b_Users_add 69 = .ok (.iadd, 1) := by decide +kernel
theorem d_Users_add_70 : decode b_Users_add 70 = .ok (.putfield 9, 3) := by decide +kernel
theorem d_Users_add_73 : decode b_Users_add 73 = .ok (.aload_n 0, 1) := by decide +kernel
theorem d_Users_add_74 : decode b_Users_add 74 = .ok (.getfield 9, 3) := by decide +kernel
theorem d_Users_add_77 : decode b_Users_add 77 = .ok (.iconst 1, 1) := by decide +kernel
theorem d_Users_add_78 : decode b_Users_add 78 = .ok (.isub, 1) := by decide +kernel
theorem d_Users_add_79 : decode b_Users_add 79 = .ok (.ireturn, 1) := by decide +kernel
theorem d_FU_user_0 : decode b_FU_user 0 = .ok (.aload_n 0, 1) := by decide +kernel
theorem d_FU_user_1 : decode b_FU_user 1 = .ok (.getfield 12, 3) := by decide +kernel
theorem d_FU_user_4 : decode b_FU_user 4 = .ok (.iload_n 1, 1) := by decide +kernel
theorem d_FU_user_5 : decode b_FU_user 5 = .ok (.invokevirtual 86, 3) := by decide +kernel
theorem d_FU_user_8 : decode b_FU_user 8 = .ok (.ifCond .eq 26, 3) := by decide +kernel
theorem d_FU_user_11 : decode b_FU_user 11 = .ok (.aload_n 0, 1) := by decide +kernel
theorem d_FU_user_12 : decode b_FU_user 12 = .ok (.getfield 12, 3) := by decide +kernel
theorem d_FU_user_15 : decode b_FU_user 15 = .ok (.iload_n 2, 1) := by decide +kernel
theorem d_FU_user_16 : decode b_FU_user 16 = .ok (.invokevirtual 86, 3) := by decide +kernel
theorem d_FU_user_19 : decode b_FU_user 19 = .ok (.ifCond .eq 15, 3) := by decide +kernel
theorem d_FU_user_22 : decode b_FU_user 22 = .ok (.aload_n 0, 1) := by decide +kernel
theorem d_FU_user_23 : decode b_FU_user 23 = .ok (.getfield 26, 3) := by decide +kernel
theorem d_FU_user_26 : decode b_FU_user 26 = .ok (.getfield 116, 3) := by decide +kernel
theorem d_FU_user_29 : decode b_FU_user 29 = .ok (.bipush 40, 2) := by decide +kernel
theorem d_FU_user_31 : decode b_FU_user 31 = .ok (.if_icmp .lt 5, 3) := by decide +kernel
theorem d_FU_user_34 : decode b_FU_user 34 = .ok (.iconst (-1), 1) := by decide +kernel
theorem d_FU_user_35 : decode b_FU_user 35 = .ok (.ireturn, 1) := by decide +kernel
theorem d_FU_user_36 : decode b_FU_user 36 = .ok (.aload_n 0, 1) := by decide +kernel
theorem d_FU_user_37 : decode b_FU_user 37 = .ok (.iconst 0, 1) := by decide +kernel
theorem d_FU_user_38 : decode b_FU_user 38 = .ok (.putfield 75, 3) := by decide +kernel
theorem d_FU_user_41 : decode b_FU_user 41 = .ok (.aload_n 0, 1) := by decide +kernel
theorem d_FU_user_42 : decode b_FU_user 42 = .ok (.getfield 26, 3) := by decide +kernel
theorem d_FU_user_45 : decode b_FU_user 45 = .ok (.iload_n 1, 1) := by decide +kernel
theorem d_FU_user_46 : decode b_FU_user 46 = .ok (.iload_n 2, 1) := by decide +kernel
theorem d_FU_user_47 : decode b_FU_user 47 = .ok (.iload_n 3, 1) := by decide +kernel
theorem d_FU_user_48 : decode b_FU_user 48 = .ok (.iload 4, 2) := by decide +kernel
theorem d_FU_user_50 : decode b_FU_user 50 = .ok (.iload 5, 2) := by decide +kernel
theorem d_FU_user_52 : decode b_FU_user 52 = .ok (.iload 6, 2) := by decide +kernel
theorem d_FU_user_54 : decode b_FU_user 54 = .ok (.invokevirtual 117, 3) := by decide +kernel
theorem d_FU_user_57 : decode b_FU_user 57 = .ok (.ireturn, 1) := by decide +kernel
theorem d_Users_has_0 : decode b_Users_has 0 = .ok (.iload_n 1, 1) := by decide +kernel
theorem d_Users_has_1 : decode b_Users_has 1 = .ok (.aload_n 0, 1) := by decide +kernel
theorem d_Users_has_2 : decode b_Users_has 2 = .ok (.getfield 9, 3) := by decide +kernel
theorem d_Users_has_5 : decode b_Users_has 5 = .ok (.invokestatic 38, 3) := by decide +kernel
theorem d_Users_has_8 : decode b_Users_has 8 = .ok (.ireturn, 1) := by decide +kernel
theorem d_FU_asks_0 : decode b_FU_asks 0 = .ok (.aload_n 0, 1) := by decide +kernel
theorem d_FU_asks_1 : decode b_FU_asks 1 = .ok (.getfield 26, 3) := by decide +kernel
theorem d_FU_asks_4 : decode b_FU_asks 4 = .ok (.iload_n 1, 1) := by decide +kernel
theorem d_FU_asks_5 : decode b_FU_asks 5 = .ok (.invokevirtual 120, 3) := by decide +kernel
theorem d_FU_asks_8 : decode b_FU_asks 8 = .ok (.ifCond .ne 5, 3) := by decide +kernel
theorem d_FU_asks_11 : decode b_FU_asks 11 = .ok (.iconst (-1), 1) := by decide +kernel
theorem d_FU_asks_12 : decode b_FU_asks 12 = .ok (.ireturn, 1) := by decide +kernel
theorem d_FU_asks_13 : decode b_FU_asks 13 = .ok (.aload_n 0, 1) := by decide +kernel
theorem d_FU_asks_14 : decode b_FU_asks 14 = .ok (.getfield 19, 3) := by decide +kernel
theorem d_FU_asks_17 : decode b_FU_asks 17 = .ok (.aload_n 0, 1) := by decide +kernel
theorem d_FU_asks_18 : decode b_FU_asks 18 = .ok (.getfield 26, 3) := by decide +kernel
theorem d_FU_asks_21 : decode b_FU_asks 21 = .ok (.getfield 121, 3) := by decide +kernel
theorem d_FU_asks_24 : decode b_FU_asks 24 = .ok (.iload_n 1, 1) := by decide +kernel
theorem d_FU_asks_25 : decode b_FU_asks 25 = .ok (.iaload, 1) := by decide +kernel
theorem d_FU_asks_26 : decode b_FU_asks 26 = .ok (.iload_n 2, 1) := by decide +kernel
theorem d_FU_asks_27 : decode b_FU_asks 27 = .ok (.invokevirtual 94, 3) := by decide +kernel
theorem d_FU_asks_30 : decode b_FU_asks 30 = .ok (.iconst (-1), 1) := by decide +kernel
theorem d_FU_asks_31 : decode b_FU_asks 31 = .ok (.if_icmp .ne 6, 3) := by decide +kernel
theorem d_FU_asks_34 : decode b_FU_asks 34 = .ok (.bipush (-2), 2) := by decide +kernel
theorem d_FU_asks_36 : decode b_FU_asks 36 = .ok (.ireturn, 1) := by decide +kernel
theorem d_FU_asks_37 : decode b_FU_asks 37 = .ok (.aload_n 0, 1) := by decide +kernel
theorem d_FU_asks_38 : decode b_FU_asks 38 = .ok (.getfield 26, 3) := by decide +kernel
theorem d_FU_asks_41 : decode b_FU_asks 41 = .ok (.getfield 124, 3) := by decide +kernel
theorem d_FU_asks_44 : decode b_FU_asks 44 = .ok (.iload_n 1, 1) := by decide +kernel
theorem d_FU_asks_45 : decode b_FU_asks 45 = .ok (.iaload, 1) := by decide +kernel
theorem d_FU_asks_46 : decode b_FU_asks 46 = .ok (.iload_n 2, 1) := by decide +kernel
theorem d_FU_asks_47 : decode b_FU_asks 47 = .ok (.invokestatic 109, 3) := by decide +kernel
theorem d_FU_asks_50 : decode b_FU_asks 50 = .ok (.ifCond .eq 6, 3) := by decide +kernel
theorem d_FU_asks_53 : decode b_FU_asks 53 = .ok (.bipush (-3), 2) := by decide +kernel
theorem d_FU_asks_55 : decode b_FU_asks 55 = .ok (.ireturn, 1) := by decide +kernel
theorem d_FU_asks_56 : decode b_FU_asks 56 = .ok (.aload_n 0, 1) := by decide +kernel
theorem d_FU_asks_57 : decode b_FU_asks 57 = .ok (.iconst 0, 1) := by decide +kernel
theorem d_FU_asks_58 : decode b_FU_asks 58 = .ok (.putfield 75, 3) := by decide +kernel
theorem d_FU_asks_61 : decode b_FU_asks 61 = .ok (.aload_n 0, 1) := by decide +kernel
theorem d_FU_asks_62 : decode b_FU_asks 62 = .ok (.getfield 26, 3) := by decide +kernel
theorem d_FU_asks_65 : decode b_FU_asks 65 = .ok (.getfield 124, 3) := by decide +kernel
theorem d_FU_asks_68 : decode b_FU_asks 68 = .ok (.iload_n 1, 1) := by decide +kernel
theorem d_FU_asks_69 : decode b_FU_asks 69 = .ok (.dup2, 1) := by decide +kernel
theorem d_FU_asks_70 : decode b_FU_asks 70 = .ok (.iaload, 1) := by decide +kernel
theorem d_FU_asks_71 : decode b_FU_asks 71 = .ok (.iconst 1, 1) := by decide +kernel
theorem d_FU_asks_72 : decode b_FU_asks 72 = .ok (.iload_n 2, 1) := by decide +kernel
theorem d_FU_asks_73 : decode b_FU_asks 73 = .ok (.ishl, 1) := by decide +kernel
theorem d_FU_asks_74 : decode b_FU_asks 74 = .ok (.ior, 1) := by decide +kernel
theorem d_FU_asks_75 : decode b_FU_asks 75 = .ok (.iastore, 1) := by decide +kernel
theorem d_FU_asks_76 : decode b_FU_asks 76 = .ok (.iconst 1, 1) := by decide +kernel
theorem d_FU_asks_77 : decode b_FU_asks 77 = .ok (.ireturn, 1) := by decide +kernel
theorem d_Feats_has_0 : decode b_Feats_has 0 = .ok (.iload_n 1, 1) := by decide +kernel
theorem d_Feats_has_1 : decode b_Feats_has 1 = .ok (.aload_n 0, 1) := by decide +kernel
theorem d_Feats_has_2 : decode b_Feats_has 2 = .ok (.getfield 9, 3) := by decide +kernel
theorem d_Feats_has_5 : decode b_Feats_has 5 = .ok (.invokestatic 29, 3) := by decide +kernel
theorem d_Feats_has_8 : decode b_Feats_has 8 = .ok (.ireturn, 1) := by decide +kernel
theorem d_Turns_add_0 : decode b_Turns_add 0 = .ok (.aload_n 0, 1) := by decide +kernel
theorem d_Turns_add_1 : decode b_Turns_add 1 = .ok (.getfield 15, 3) := by decide +kernel
theorem d_Turns_add_4 : decode b_Turns_add 4 = .ok (.aload_n 0, 1) := by decide +kernel
theorem d_Turns_add_5 : decode b_Turns_add 5 = .ok (.getfield 9, 3) := by decide +kernel
theorem d_Turns_add_8 : decode b_Turns_add 8 = .ok (.iload_n 1, 1) := by decide +kernel
theorem d_Turns_add_9 : decode b_Turns_add 9 = .ok (.iastore, 1) := by decide +kernel
theorem d_Turns_add_10 : decode b_Turns_add 10 = .ok (.aload_n 0, 1) := by decide +kernel
theorem d_Turns_add_11 : decode b_Turns_add 11 = .ok (.getfield 19, 3) := by decide +kernel
theorem d_Turns_add_14 : decode b_Turns_add 14 = .ok (.aload_n 0, 1) := by decide +kernel
theorem d_Turns_add_15 : decode b_Turns_add 15 = .ok (.getfield 9, 3) := by decide +kernel
theorem d_Turns_add_18 : decode b_Turns_add 18 = .ok (.iload_n 2, 1) := by decide +kernel
theorem d_Turns_add_19 : decode b_Turns_add 19 = .ok (.iastore, 1) := by decide +kernel
theorem d_Turns_add_20 : decode b_Turns_add 20 = .ok (.aload_n 0, 1) := by decide +kernel
theorem d_Turns_add_21 : decode b_Turns_add 21 = .ok (.getfield 22, 3) := by decide +kernel
theorem d_Turns_add_24 : decode b_Turns_add 24 = .ok (.aload_n 0, 1) := by decide +kernel
theorem d_Turns_add_25 : decode b_Turns_add 25 = .ok (.getfield 9, 3) := by decide +kernel
theorem d_Turns_add_28 : decode b_Turns_add 28 = .ok (.iload_n 3, 1) := by decide +kernel
theorem d_Turns_add_29 : decode b_Turns_add 29 = .ok (.iastore, 1) := by decide +kernel
theorem d_Turns_add_30 : decode b_Turns_add 30 = .ok (.aload_n 0, 1) := by decide +kernel
theorem d_Turns_add_31 : decode b_Turns_add 31 = .ok (.getfield 25, 3) := by decide +kernel
theorem d_Turns_add_34 : decode b_Turns_add 34 = .ok (.aload_n 0, 1) := by decide +kernel
theorem d_Turns_add_35 : decode b_Turns_add 35 = .ok (.getfield 9, 3) := by decide +kernel
theorem d_Turns_add_38 : decode b_Turns_add 38 = .ok (.iload 4, 2) := by decide +kernel
theorem d_Turns_add_40 : decode b_Turns_add 40 = .ok (.iastore, 1) := by decide +kernel
theorem d_Turns_add_41 : decode b_Turns_add 41 = .ok (.aload_n 0, 1) := by decide +kernel
theorem d_Turns_add_42 : decode b_Turns_add 42 = .ok (.dup, 1) := by decide +kernel
theorem d_Turns_add_43 : decode b_Turns_add 43 = .ok (.getfield 9, 3) := by decide +kernel
theorem d_Turns_add_46 : decode b_Turns_add 46 = .ok (.iconst 1, 1) := by decide +kernel
theorem d_Turns_add_47 : decode b_Turns_add 47 = .ok (.iadd, 1) := by decide +kernel
theorem d_Turns_add_48 : decode b_Turns_add 48 = .ok (.putfield 9, 3) := by decide +kernel
theorem d_Turns_add_51 : decode b_Turns_add 51 = .ok (.aload_n 0, 1) := by decide +kernel
theorem d_Turns_add_52 : decode b_Turns_add 52 = .ok (.getfield 9, 3) := by decide +kernel
theorem d_Turns_add_55 : decode b_Turns_add 55 = .ok (.iconst 1, 1) := by decide +kernel
theorem d_Turns_add_56 : decode b_Turns_add 56 = .ok (.isub, 1) := by decide +kernel
theorem d_Turns_add_57 : decode b_Turns_add 57 = .ok (.ireturn, 1) := by decide +kernel
end
section
theorem d_FU_turn_0 : decode b_FU_turn 0 = .ok (.aload_n 0, 1) := by decide +kernel
theorem d_FU_turn_1 : decode b_FU_turn 1 = .ok (.getfield 19, 3) := by decide +kernel
theorem d_FU_turn_4 : decode b_FU_turn 4 = .ok (.iload_n 1, 1) := by decide +kernel
theorem d_FU_turn_5 : decode b_FU_turn 5 = .ok (.invokevirtual 127, 3) := by decide +kernel
theorem d_FU_turn_8 : decode b_FU_turn 8 = .ok (.ifCond .eq 23, 3) := by decide +kernel
theorem d_FU_turn_11 : decode b_FU_turn 11 = .ok (.iload_n 2, 1) := by decide +kernel
theorem d_FU_turn_12 : decode b_FU_turn 12 = .ok (.iconst 4, 1) := by decide +kernel
theorem d_FU_turn_13 : decode b_FU_turn 13 = .ok (.invokestatic 90, 3) := by decide +kernel
theorem d_FU_turn_16 : decode b_FU_turn 16 = .ok (.ifCond .eq 15, 3) := by decide +kernel
theorem d_FU_turn_19 : decode b_FU_turn 19 = .ok (.aload_n 0, 1) := by decide +kernel
theorem d_FU_turn_20 : decode b_FU_turn 20 = .ok (.getfield 33, 3) := by decide +kernel
theorem d_FU_turn_23 : decode b_FU_turn 23 = .ok (.getfield 128, 3) := by decide +kernel
theorem d_FU_turn_26 : decode b_FU_turn 26 = .ok (.bipush 60, 2) := by decide +kernel
theorem d_FU_turn_28 : decode b_FU_turn 28 = .ok (.if_icmp .lt 5, 3) := by decide +kernel
theorem d_FU_turn_31 : decode b_FU_turn 31 = .ok (.iconst (-1), 1) := by decide +kernel
theorem d_FU_turn_32 : decode b_FU_turn 32 = .ok (.ireturn, 1) := by decide +kernel
theorem d_FU_turn_33 : decode b_FU_turn 33 = .ok (.aload_n 0, 1) := by decide +kernel
theorem d_FU_turn_34 : decode b_FU_turn 34 = .ok (.getfield 19, 3) := by decide +kernel
theorem d_FU_turn_37 : decode b_FU_turn 37 = .ok (.getfield 129, 3) := by decide +kernel
theorem d_FU_turn_40 : decode b_FU_turn 40 = .ok (.iload_n 1, 1) := by decide +kernel
theorem d_FU_turn_41 : decode b_FU_turn 41 = .ok (.iaload, 1) := by decide +kernel
theorem d_FU_turn_42 : decode b_FU_turn 42 = .ok (.istore 5, 2) := by decide +kernel
theorem d_FU_turn_44 : decode b_FU_turn 44 = .ok (.iconst (-1), 1) := by decide +kernel
theorem d_FU_turn_45 : decode b_FU_turn 45 = .ok (.istore 6, 2) := by decide +kernel
theorem d_FU_turn_47 : decode b_FU_turn 47 = .ok (.iload_n 2, 1) := by decide +kernel
theorem d_FU_turn_48 : decode b_FU_turn 48 = .ok (.ifCond .eq 52, 3) := by decide +kernel
theorem d_FU_turn_51 : decode b_FU_turn 51 = .ok (.aload_n 0, 1) := by decide +kernel
theorem d_FU_turn_52 : decode b_FU_turn 52 = .ok (.getfield 26, 3) := by decide +kernel
theorem d_FU_turn_55 : decode b_FU_turn 55 = .ok (.iload_n 3, 1) := by decide +kernel
theorem d_FU_turn_56 : decode b_FU_turn 56 = .ok (.invokevirtual 120, 3) := by decide +kernel
theorem d_FU_turn_59 : decode b_FU_turn 59 = .ok (.ifCond .eq 17, 3) := by decide +kernel
theorem d_FU_turn_62 : decode b_FU_turn 62 = .ok (.aload_n 0, 1) := by decide +kernel
theorem d_FU_turn_63 : decode b_FU_turn 63 = .ok (.getfield 26, 3) := by decide +kernel
theorem d_FU_turn_66 : decode b_FU_turn 66 = .ok (.getfield 132, 3) := by decide +kernel
theorem d_FU_turn_69 : decode b_FU_turn 69 = .ok (.iload_n 3, 1) := by decide +kernel
theorem d_FU_turn_70 : decode b_FU_turn 70 = .ok (.iaload, 1) := by decide +kernel
theorem d_FU_turn_71 : decode b_FU_turn 71 = .ok (.iload 5, 2) := by decide +kernel
theorem d_FU_turn_73 : decode b_FU_turn 73 = .ok (.if_icmp .eq 5, 3) := by decide +kernel
theorem d_FU_turn_76 : decode b_FU_turn 76 = .ok (.iconst (-1), 1) := by decide +kernel
theorem d_FU_turn_77 : decode b_FU_turn 77 = .ok (.ireturn, 1) := by decide +kernel
theorem d_FU_turn_78 : decode b_FU_turn 78 = .ok (.iload_n 2, 1) := by decide +kernel
theorem d_FU_turn_79 : decode b_FU_turn 79 = .ok (.iconst 1, 1) := by decide +kernel
theorem d_FU_turn_80 : decode b_FU_turn 80 = .ok (.if_icmp .ne 17, 3) := by decide +kernel
theorem d_FU_turn_83 : decode b_FU_turn 83 = .ok (.aload_n 0, 1) := by decide +kernel
theorem d_FU_turn_84 : decode b_FU_turn 84 = .ok (.getfield 26, 3) := by decide +kernel
theorem d_FU_turn_87 : decode b_FU_turn 87 = .ok (.getfield 135, 3) := by decide +kernel
theorem d_FU_turn_90 : decode b_FU_turn 90 = .ok (.iload_n 3, 1) := by decide +kernel
theorem d_FU_turn_91 : decode b_FU_turn 91 = .ok (.baload, 1) := by decide +kernel
theorem d_FU_turn_92 : decode b_FU_turn 92 = .ok (.ifCond .ne 5, 3) := by decide +kernel
theorem d_FU_turn_95 : decode b_FU_turn 95 = .ok (.iconst (-1), 1) := by decide +kernel
theorem d_FU_turn_96 : decode b_FU_turn 96 = .ok (.ireturn, 1) := by decide +kernel
theorem d_FU_turn_97 : decode b_FU_turn 97 = .ok (.iload_n 3, 1) := by decide +kernel
theorem d_FU_turn_98 : decode b_FU_turn 98 = .ok (.istore 6, 2) := by decide +kernel
theorem d_FU_turn_100 : decode b_FU_turn 100 = .ok (.iconst (-1), 1) := by decide +kernel
theorem d_FU_turn_101 : decode b_FU_turn 101 = .ok (.istore 7, 2) := by decide +kernel
theorem d_FU_turn_103 : decode b_FU_turn 103 = .ok (.iload_n 2, 1) := by decide +kernel
theorem d_FU_turn_104 : decode b_FU_turn 104 = .ok (.iconst 1, 1) := by decide +kernel
theorem d_FU_turn_105 : decode b_FU_turn 105 = .ok (.if_icmp .eq 53, 3) := by decide +kernel
theorem d_FU_turn_108 : decode b_FU_turn 108 = .ok (.aload_n 0, 1) := by decide +kernel
theorem d_FU_turn_109 : decode b_FU_turn 109 = .ok (.getfield 19, 3) := by decide +kernel
theorem d_FU_turn_112 : decode b_FU_turn 112 = .ok (.iload 6, 2) := by decide +kernel
theorem d_FU_turn_114 : decode b_FU_turn 114 = .ok (.iconst (-1), 1) := by decide +kernel
theorem d_FU_turn_115 : decode b_FU_turn 115 = .ok (.if_icmp .ne 8, 3) := by decide +kernel
theorem d_FU_turn_118 : decode b_FU_turn 118 = .ok (.iload 5, 2) := by decide +kernel
theorem d_FU_turn_120 : decode b_FU_turn 120 = .ok (.goto 13, 3) := by decide +kernel
theorem d_FU_turn_123 : decode b_FU_turn 123 = .ok (.aload_n 0, 1) := by decide +kernel
theorem d_FU_turn_124 : decode b_FU_turn 124 = .ok (.getfield 26, 3) := by decide +kernel
theorem d_FU_turn_127 : decode b_FU_turn 127 = .ok (.getfield 121, 3) := by decide +kernel
theorem d_FU_turn_130 : decode b_FU_turn 130 = .ok (.iload 6, 2) := by decide +kernel
theorem d_FU_turn_132 : decode b_FU_turn 132 = .ok (.iaload, 1) := by decide +kernel
theorem d_FU_turn_133 : decode b_FU_turn 133 = .ok (.iload 4, 2) := by decide +kernel
theorem d_FU_turn_135 : decode b_FU_turn 135 = .ok (.invokevirtual 94, 3) := by decide +kernel
theorem d_FU_turn_138 : decode b_FU_turn 138 = .ok (.istore 7, 2) := by decide +kernel
theorem d_FU_turn_140 : decode b_FU_turn 140 = .ok (.iload 7, 2) := by decide +kernel
theorem d_FU_turn_142 : decode b_FU_turn 142 = .ok (.iconst (-1), 1) := by decide +kernel
theorem d_FU_turn_143 : decode b_FU_turn 143 = .ok (.if_icmp .eq 13, 3) := by decide +kernel
theorem d_FU_turn_146 : decode b_FU_turn 146 = .ok (.iload_n 2, 1) := by decide +kernel
theorem d_FU_turn_147 : decode b_FU_turn 147 = .ok (.ifCond .ne 11, 3) := by decide +kernel
theorem d_FU_turn_150 : decode b_FU_turn 150 = .ok (.iload 7, 2) := by decide +kernel
theorem d_FU_turn_152 : decode b_FU_turn 152 = .ok (.iload_n 1, 1) := by decide +kernel
theorem d_FU_turn_153 : decode b_FU_turn 153 = .ok (.if_icmp .ne 5, 3) := by decide +kernel
theorem d_FU_turn_156 : decode b_FU_turn 156 = .ok (.iconst (-1), 1) := by decide +kernel
theorem d_FU_turn_157 : decode b_FU_turn 157 = .ok (.ireturn, 1) := by decide +kernel
theorem d_FU_turn_158 : decode b_FU_turn 158 = .ok (.aload_n 0, 1) := by decide +kernel
theorem d_FU_turn_159 : decode b_FU_turn 159 = .ok (.iconst 0, 1) := by decide +kernel
theorem d_FU_turn_160 : decode b_FU_turn 160 = .ok (.putfield 75, 3) := by decide +kernel
theorem d_FU_turn_163 : decode b_FU_turn 163 = .ok (.aload_n 0, 1) := by decide +kernel
theorem d_FU_turn_164 : decode b_FU_turn 164 = .ok (.getfield 33, 3) := by decide +kernel
theorem d_FU_turn_167 : decode b_FU_turn 167 = .ok (.iload_n 1, 1) := by decide +kernel
theorem d_FU_turn_168 : decode b_FU_turn 168 = .ok (.iload_n 2, 1) := by decide +kernel
theorem d_FU_turn_169 : decode b_FU_turn 169 = .ok (.iload 6, 2) := by decide +kernel
theorem d_FU_turn_171 : decode b_FU_turn 171 = .ok (.iload 7, 2) := by decide +kernel
theorem d_FU_turn_173 : decode b_FU_turn 173 = .ok (.invokevirtual 139, 3) := by decide +kernel
theorem d_FU_turn_176 : decode b_FU_turn 176 = .ok (.ireturn, 1) := by decide +kernel
theorem d_Snap_take_0 : decode b_Snap_take 0 = .ok (.aload_n 0, 1) := by decide +kernel
theorem d_Snap_take_1 : decode b_Snap_take 1 = .ok (.iload_n 1, 1) := by decide +kernel
theorem d_Snap_take_2 : decode b_Snap_take 2 = .ok (.putfield 9, 3) := by decide +kernel
theorem d_Snap_take_5 : decode b_Snap_take 5 = .ok (.aload_n 0, 1) := by decide +kernel
theorem d_Snap_take_6 : decode b_Snap_take 6 = .ok (.aload_n 0, 1) := by decide +kernel
theorem d_Snap_take_7 : decode b_Snap_take 7 = .ok (.getfield 37, 3) := by decide +kernel
theorem d_Snap_take_10 : decode b_Snap_take 10 = .ok (.getfield 53, 3) := by decide +kernel
theorem d_Snap_take_13 : decode b_Snap_take 13 = .ok (.putfield 15, 3) := by decide +kernel
theorem d_Snap_take_16 : decode b_Snap_take 16 = .ok (.aload_n 0, 1) := by decide +kernel
theorem d_Snap_take_17 : decode b_Snap_take 17 = .ok (.aload_n 0, 1) := by decide +kernel
theorem d_Snap_take_18 : decode b_Snap_take 18 = .ok (.getfield 37, 3) := by decide +kernel
theorem d_Snap_take_21 : decode b_Snap_take 21 = .ok (.getfield 56, 3) := by decide +kernel
theorem d_Snap_take_24 : decode b_Snap_take 24 = .ok (.putfield 18, 3) := by decide +kernel
theorem d_Snap_take_27 : decode b_Snap_take 27 = .ok (.aload_n 0, 1) := by decide +kernel
theorem d_Snap_take_28 : decode b_Snap_take 28 = .ok (.aload_n 0, 1) := by decide +kernel
theorem d_Snap_take_29 : decode b_Snap_take 29 = .ok (.getfield 37, 3) := by decide +kernel
theorem d_Snap_take_32 : decode b_Snap_take 32 = .ok (.getfield 57, 3) := by decide +kernel
theorem d_Snap_take_35 : decode b_Snap_take 35 = .ok (.putfield 21, 3) := by decide +kernel
theorem d_Snap_take_38 : decode b_Snap_take 38 = .ok (.aload_n 0, 1) := by decide +kernel
theorem d_Snap_take_39 : decode b_Snap_take 39 = .ok (.aload_n 0, 1) := by decide +kernel
theorem d_Snap_take_40 : decode b_Snap_take 40 = .ok (.getfield 41, 3) := by decide +kernel
theorem d_Snap_take_43 : decode b_Snap_take 43 = .ok (.getfield 60, 3) := by decide +kernel
theorem d_Snap_take_46 : decode b_Snap_take 46 = .ok (.putfield 24, 3) := by decide +kernel
theorem d_Snap_take_49 : decode b_Snap_take 49 = .ok (.aload_n 0, 1) := by decide +kernel
theorem d_Snap_take_50 : decode b_Snap_take 50 = .ok (.aload_n 0, 1) := by decide +kernel
theorem d_Snap_take_51 : decode b_Snap_take 51 = .ok (.getfield 45, 3) := by decide +kernel
theorem d_Snap_take_54 : decode b_Snap_take 54 = .ok (.getfield 63, 3) := by decide +kernel
theorem d_Snap_take_57 : decode b_Snap_take 57 = .ok (.putfield 27, 3) := by decide +kernel
theorem d_Snap_take_60 : decode b_Snap_take 60 = .ok (.aload_n 0, 1) := by decide +kernel
theorem d_Snap_take_61 : decode b_Snap_take 61 = .ok (.aload_n 0, 1) := by decide +kernel
theorem d_Snap_take_62 : decode b_Snap_take 62 = .ok (.getfield 49, 3) := by decide +kernel
theorem d_Snap_take_65 : decode b_Snap_take 65 = .ok (.getfield 66, 3) := by decide +kernel
theorem d_Snap_take_68 : decode b_Snap_take 68 = .ok (.putfield 30, 3) := by decide +kernel
theorem d_Snap_take_71 : decode b_Snap_take 71 = .ok (.aload_n 0, 1) := by decide +kernel
theorem d_Snap_take_72 : decode b_Snap_take 72 = .ok (.getfield 45, 3) := by decide +kernel
theorem d_Snap_take_75 : decode b_Snap_take 75 = .ok (.getfield 69, 3) := by decide +kernel
theorem d_Snap_take_78 : decode b_Snap_take 78 = .ok (.iconst 0, 1) := by decide +kernel
theorem d_Snap_take_79 : decode b_Snap_take 79 = .ok (.aload_n 0, 1) := by decide +kernel
theorem d_Snap_take_80 : decode b_Snap_take 80 = .ok (.getfield 33, 3) := by decide +kernel
theorem d_Snap_take_83 : decode b_Snap_take 83 = .ok (.iconst 0, 1) := by decide +kernel
theorem d_Snap_take_84 : decode b_Snap_take 84 = .ok (.bipush 40, 2) := by decide +kernel
theorem d_Snap_take_86 : decode b_Snap_take 86 = .ok (.invokestatic 70, 3) := by decide +kernel
theorem d_Snap_take_89 : decode b_Snap_take 89 = .ok (.return_, 1) := by decide +kernel
theorem d_Clo_bring_0 : decode b_Clo_bring 0 = .ok (.aload_n 0, 1) := by decide +kernel
theorem d_Clo_bring_1 : decode b_Clo_bring 1 = .ok (.getfield 9, 3) := by decide +kernel
theorem d_Clo_bring_4 : decode b_Clo_bring 4 = .ok (.iload_n 1, 1) := by decide +kernel
theorem d_Clo_bring_5 : decode b_Clo_bring 5 = .ok (.iaload, 1) := by decide +kernel
theorem d_Clo_bring_6 : decode b_Clo_bring 6 = .ok (.ifCond .ne 40, 3) := by decide +kernel
theorem d_Clo_bring_9 : decode b_Clo_bring 9 = .ok (.aload_n 0, 1) := by decide +kernel
theorem d_Clo_bring_10 : decode b_Clo_bring 10 = .ok (.getfield 18, 3) := by decide +kernel
theorem d_Clo_bring_13 : decode b_Clo_bring 13 = .ok (.sipush 220, 3) := by decide +kernel
theorem d_Clo_bring_16 : decode b_Clo_bring 16 = .ok (.if_icmp .ge 30, 3) := by decide +kernel
theorem d_Clo_bring_19 : decode b_Clo_bring 19 = .ok (.aload_n 0, 1) := by decide +kernel
theorem d_Clo_bring_20 : decode b_Clo_bring 20 = .ok (.getfield 9, 3) := by decide +kernel
theorem d_Clo_bring_23 : decode b_Clo_bring 23 = .ok (.iload_n 1, 1) := by decide +kernel
theorem d_Clo_bring_24 : decode b_Clo_bring 24 = .ok (.iload_n 2, 1) := by decide +kernel
theorem d_Clo_bring_25 : decode b_Clo_bring 25 = .ok (.iastore, 1) := by decide +kernel
theorem d_Clo_bring_26 : decode b_Clo_bring 26 = .ok (.aload_n 0, 1) := by decide +kernel
theorem d_Clo_bring_27 : decode b_Clo_bring 27 = .ok (.getfield 15, 3) := by decide +kernel
theorem d_Clo_bring_30 : decode b_Clo_bring 30 = .ok (.aload_n 0, 1) := by decide +kernel
theorem d_Clo_bring_31 : decode b_Clo_bring 31 = .ok (.getfield 18, 3) := by decide +kernel
theorem d_Clo_bring_34 : decode b_Clo_bring 34 = .ok (.iload_n 1, 1) := by decide +kernel
theorem d_Clo_bring_35 : decode b_Clo_bring 35 = .ok (.iastore, 1) := by decide +kernel
theorem d_Clo_bring_36 : decode b_Clo_bring 36 = .ok (.aload_n 0, 1) := by decide +kernel
theorem d_Clo_bring_37 : decode b_Clo_bring 37 = .ok (.dup, 1) := by decide +kernel
theorem d_Clo_bring_38 : decode b_Clo_bring 38 = .ok (.getfield 18, 3) := by decide +kernel
theorem d_Clo_bring_41 : decode b_Clo_bring 41 = .ok (.iconst 1, 1) := by decide +kernel
theorem d_Clo_bring_42 : decode b_Clo_bring 42 = .ok (.iadd, 1) := by decide +kernel
theorem d_Clo_bring_43 : decode b_Clo_bring 43 = .ok (.putfield 18, 3) := by decide +kernel
theorem d_Clo_bring_46 : decode b_Clo_bring 46 = .ok (.return_, 1) := by decide +kernel
theorem d_Clo_bringThere_0 : decode b_Clo_bringThere 0 = .ok (.aload_n 0, 1) := by decide +kernel
theorem d_Clo_bringThere_1 : decode b_Clo_bringThere 1 = .ok (.iconst 2, 1) := by decide +kernel
theorem d_Clo_bringThere_2 : decode b_Clo_bringThere 2 = .ok (.iload_n 1, 1) := by decide +kernel
theorem d_Clo_bringThere_3 : decode b_Clo_bringThere 3 = .ok (.imul, 1) := by decide +kernel
theorem d_Clo_bringThere_4 : decode b_Clo_bringThere 4 = .ok (.iload_n 2, 1) := by decide +kernel
theorem d_Clo_bringThere_5 : decode b_Clo_bringThere 5 = .ok (.iadd, 1) := by decide +kernel
theorem d_Clo_bringThere_6 : decode b_Clo_bringThere 6 = .ok (.iload_n 3, 1) := by decide +kernel
theorem d_Clo_bringThere_7 : decode b_Clo_bringThere 7 = .ok (.invokevirtual 154, 3) := by decide +kernel
theorem d_Clo_bringThere_10 : decode b_Clo_bringThere 10 = .ok (.return_, 1) := by decide +kernel
theorem d_Snap_counts_0 : decode b_Snap_counts 0 = .ok (.aload_n 0, 1) := by decide +kernel
theorem d_Snap_counts_1 : decode b_Snap_counts 1 = .ok (.getfield 45, 3) := by decide +kernel
theorem d_Snap_counts_4 : decode b_Snap_counts 4 = .ok (.getfield 76, 3) := by decide +kernel
theorem d_Snap_counts_7 : decode b_Snap_counts 7 = .ok (.iload_n 1, 1) := by decide +kernel
theorem d_Snap_counts_8 : decode b_Snap_counts 8 = .ok (.iaload, 1) := by decide +kernel
theorem d_Snap_counts_9 : decode b_Snap_counts 9 = .ok (.aload_n 0, 1) := by decide +kernel
theorem d_Snap_counts_10 : decode b_Snap_counts 10 = .ok (.getfield 9, 3) := by decide +kernel
theorem d_Snap_counts_13 : decode b_Snap_counts 13 = .ok (.invokestatic 79, 3) := by decide +kernel
theorem d_Snap_counts_16 : decode b_Snap_counts 16 = .ok (.ireturn, 1) := by decide +kernel
theorem d_Clo_bringLive_0 : decode b_Clo_bringLive 0 = .ok (.aload_n 0, 1) := by decide +kernel
theorem d_Clo_bringLive_1 : decode b_Clo_bringLive 1 = .ok (.getfield 22, 3) := by decide +kernel
theorem d_Clo_bringLive_4 : decode b_Clo_bringLive 4 = .ok (.iload_n 1, 1) := by decide +kernel
theorem d_Clo_bringLive_5 : decode b_Clo_bringLive 5 = .ok (.invokevirtual 148, 3) := by decide +kernel
theorem d_Clo_bringLive_8 : decode b_Clo_bringLive 8 = .ok (.ifCond .eq 16, 3) := by decide +kernel
theorem d_Clo_bringLive_11 : decode b_Clo_bringLive 11 = .ok (.aload_n 0, 1) := by decide +kernel
theorem d_Clo_bringLive_12 : decode b_Clo_bringLive 12 = .ok (.bipush 20, 2) := by decide +kernel
theorem d_Clo_bringLive_14 : decode b_Clo_bringLive 14 = .ok (.iconst 2, 1) := by decide +kernel
theorem d_Clo_bringLive_15 : decode b_Clo_bringLive 15 = .ok (.iload_n 1, 1) := by decide +kernel
theorem d_Clo_bringLive_16 : decode b_Clo_bringLive 16 = .ok (.imul, 1) := by decide +kernel
theorem d_Clo_bringLive_17 : decode b_Clo_bringLive 17 = .ok (.iadd, 1) := by decide +kernel
theorem d_Clo_bringLive_18 : decode b_Clo_bringLive 18 = .ok (.iload_n 2, 1) := by decide +kernel
theorem d_Clo_bringLive_19 : decode b_Clo_bringLive 19 = .ok (.iadd, 1) := by decide +kernel
theorem d_Clo_bringLive_20 : decode b_Clo_bringLive 20 = .ok (.iload_n 3, 1) := by decide +kernel
theorem d_Clo_bringLive_21 : decode b_Clo_bringLive 21 = .ok (.invokevirtual 154, 3) := by decide +kernel
theorem d_Clo_bringLive_24 : decode b_Clo_bringLive 24 = .ok (.return_, 1) := by decide +kernel
theorem d_Snap_isDefaultOfRoot_0 : decode b_Snap_isDefaultOfRoot 0 = .ok (.aload_n 0, 1) := by decide +kernel
theorem d_Snap_isDefaultOfRoot_1 : decode b_Snap_isDefaultOfRoot 1 = .ok (.getfield 41, 3) := by decide +kernel
theorem d_Snap_isDefaultOfRoot_4 : decode b_Snap_isDefaultOfRoot 4 = .ok (.getfield 96, 3) := by decide +kernel
theorem d_Snap_isDefaultOfRoot_7 : decode b_Snap_isDefaultOfRoot 7 = .ok (.iload_n 1, 1) := by decide +kernel
theorem d_Snap_isDefaultOfRoot_8 : decode b_Snap_isDefaultOfRoot 8 = .ok (.baload, 1) := by decide +kernel
theorem d_Snap_isDefaultOfRoot_9 : decode b_Snap_isDefaultOfRoot 9 = .ok (.ifCond .eq 26, 3) := by decide +kernel
theorem d_Snap_isDefaultOfRoot_12 : decode b_Snap_isDefaultOfRoot 12 = .ok (.aload_n 0, 1) := by decide +kernel
theorem d_Snap_isDefaultOfRoot_13 : decode b_Snap_isDefaultOfRoot 13 = .ok (.getfield 18, 3) := by decide +kernel
theorem d_Snap_isDefaultOfRoot_16 : decode b_Snap_isDefaultOfRoot 16 = .ok (.aload_n 0, 1) := by decide +kernel
theorem d_Snap_isDefaultOfRoot_17 : decode b_Snap_isDefaultOfRoot 17 = .ok (.getfield 41, 3) := by decide +kernel
theorem d_Snap_isDefaultOfRoot_20 : decode b_Snap_isDefaultOfRoot 20 = .ok (.getfield 83, 3) := by decide +kernel
theorem d_Snap_isDefaultOfRoot_23 : decode b_Snap_isDefaultOfRoot 23 = .ok (.iload_n 1, 1) := by decide +kernel
theorem d_Snap_isDefaultOfRoot_24 : decode b_Snap_isDefaultOfRoot 24 = .ok (.iaload, 1) := by decide +kernel
theorem d_Snap_isDefaultOfRoot_25 : decode b_Snap_isDefaultOfRoot 25 = .ok (.invokestatic 79, 3) := by decide +kernel
theorem d_Snap_isDefaultOfRoot_28 : decode b_Snap_isDefaultOfRoot 28 = .ok (.ifCond .eq 7, 3) := by decide +kernel
theorem d_Snap_isDefaultOfRoot_31 : decode b_Snap_isDefaultOfRoot 31 = .ok (.iconst 1, 1) := by decide +kernel
theorem d_Snap_isDefaultOfRoot_32 : decode b_Snap_isDefaultOfRoot 32 = .ok (.goto 4, 3) := by decide +kernel
theorem d_Snap_isDefaultOfRoot_35 : decode b_Snap_isDefaultOfRoot 35 = .ok (.iconst 0, 1) := by decide +kernel
theorem d_Snap_isDefaultOfRoot_36 : decode b_Snap_isDefaultOfRoot 36 = .ok (.ireturn, 1) := by decide +kernel
theorem d_Clo_onStage_0 : decode b_Clo_onStage 0 = .ok (.aload_n 0, 1) := by decide +kernel
theorem d_Clo_onStage_1 : decode b_Clo_onStage 1 = .ok (.getfield 9, 3) := by decide +kernel
theorem d_Clo_onStage_4 : decode b_Clo_onStage 4 = .ok (.bipush 100, 2) := by decide +kernel
theorem d_Clo_onStage_6 : decode b_Clo_onStage 6 = .ok (.iconst 2, 1) := by decide +kernel
theorem d_Clo_onStage_7 : decode b_Clo_onStage 7 = .ok (.iload_n 1, 1) := by decide +kernel
theorem d_Clo_onStage_8 : decode b_Clo_onStage 8 = .ok (.imul, 1) := by decide +kernel
theorem d_Clo_onStage_9 : decode b_Clo_onStage 9 = .ok (.iadd, 1) := by decide +kernel
theorem d_Clo_onStage_10 : decode b_Clo_onStage 10 = .ok (.iload_n 2, 1) := by decide +kernel
theorem d_Clo_onStage_11 : decode b_Clo_onStage 11 = .ok (.iadd, 1) := by decide +kernel
theorem d_Clo_onStage_12 : decode b_Clo_onStage 12 = .ok (.iaload, 1) := by decide +kernel
theorem d_Clo_onStage_13 : decode b_Clo_onStage 13 = .ok (.ireturn, 1) := by decide +kernel
theorem d_Clo_isBy_0 : decode b_Clo_isBy 0 = .ok (.iload_n 0, 1) := by decide +kernel
theorem d_Clo_isBy_1 : decode b_Clo_isBy 1 = .ok (.ifCond .eq 12, 3) := by decide +kernel
theorem d_Clo_isBy_4 : decode b_Clo_isBy 4 = .ok (.iload_n 0, 1) := by decide +kernel
theorem d_Clo_isBy_5 : decode b_Clo_isBy 5 = .ok (.iload_n 1, 1) := by decide +kernel
theorem d_Clo_isBy_6 : decode b_Clo_isBy 6 = .ok (.if_icmp .gt 7, 3) := by decide +kernel
theorem d_Clo_isBy_9 : decode b_Clo_isBy 9 = .ok (.iconst 1, 1) := by decide +kernel
theorem d_Clo_isBy_10 : decode b_Clo_isBy 10 = .ok (.goto 4, 3) := by decide +kernel
theorem d_Clo_isBy_13 : decode b_Clo_isBy 13 = .ok (.iconst 0, 1) := by decide +kernel
theorem d_Clo_isBy_14 : decode b_Clo_isBy 14 = .ok (.ireturn, 1) := by decide +kernel
theorem d_Clo_bringOn_0 : decode b_Clo_bringOn 0 = .ok (.aload_n 0, 1) := by decide +kernel
theorem d_Clo_bringOn_1 : decode b_Clo_bringOn 1 = .ok (.bipush 100, 2) := by decide +kernel
theorem d_Clo_bringOn_3 : decode b_Clo_bringOn 3 = .ok (.iconst 2, 1) := by decide +kernel
theorem d_Clo_bringOn_4 : decode b_Clo_bringOn 4 = .ok (.iload_n 1, 1) := by decide +kernel
theorem d_Clo_bringOn_5 : decode b_Clo_bringOn 5 = .ok (.imul, 1) := by decide +kernel
theorem d_Clo_bringOn_6 : decode b_Clo_bringOn 6 = .ok (.iadd, 1) := by decide +kernel
theorem d_Clo_bringOn_7 : decode b_Clo_bringOn 7 = .ok (.iload_n 2, 1) := by decide +kernel
theorem d_Clo_bringOn_8 : decode b_Clo_bringOn 8 = .ok (.iadd, 1) := by decide +kernel
theorem d_Clo_bringOn_9 : decode b_Clo_bringOn 9 = .ok (.iload_n 3, 1) := by decide +kernel
theorem d_Clo_bringOn_10 : decode b_Clo_bringOn 10 = .ok (.invokevirtual 154, 3) := by decide +kernel
theorem d_Clo_bringOn_13 : decode b_Clo_bringOn 13 = .ok (.return_, 1) := by decide +kernel
theorem d_Clo_followThere_0 : decode b_Clo_followThere 0 = .ok (.iconst 0, 1) := by decide +kernel
theorem d_Clo_followThere_1 : decode b_Clo_followThere 1 = .ok (.istore 4, 2) := by decide +kernel
theorem d_Clo_followThere_3 : decode b_Clo_followThere 3 = .ok (.iload 4, 2) := by decide +kernel
theorem d_Clo_followThere_5 : decode b_Clo_followThere 5 = .ok (.aload_n 0, 1) := by decide +kernel
theorem d_Clo_followThere_6 : decode b_Clo_followThere 6 = .ok (.getfield 22, 3) := by decide +kernel
theorem d_Clo_followThere_9 : decode b_Clo_followThere 9 = .ok (.getfield 55, 3) := by decide +kernel
theorem d_Clo_followThere_12 : decode b_Clo_followThere 12 = .ok (.if_icmp .ge 52, 3) := by decide +kernel
theorem d_Clo_followThere_15 : decode b_Clo_followThere 15 = .ok (.aload_n 0, 1) := by decide +kernel
theorem d_Clo_followThere_16 : decode b_Clo_followThere 16 = .ok (.getfield 22, 3) := by decide +kernel
theorem d_Clo_followThere_19 : decode b_Clo_followThere 19 = .ok (.getfield 58, 3) := by decide +kernel
theorem d_Clo_followThere_22 : decode b_Clo_followThere 22 = .ok (.getfield 62, 3) := by decide +kernel
theorem d_Clo_followThere_25 : decode b_Clo_followThere 25 = .ok (.iload 4, 2) := by decide +kernel
theorem d_Clo_followThere_27 : decode b_Clo_followThere 27 = .ok (.iaload, 1) := by decide +kernel
theorem d_Clo_followThere_28 : decode b_Clo_followThere 28 = .ok (.iload_n 1, 1) := by decide +kernel
theorem d_Clo_followThere_29 : decode b_Clo_followThere 29 = .ok (.if_icmp .ne 29, 3) := by decide +kernel
theorem d_Clo_followThere_32 : decode b_Clo_followThere 32 = .ok (.aload_n 0, 1) := by decide +kernel
theorem d_Clo_followThere_33 : decode b_Clo_followThere 33 = .ok (.getfield 22, 3) := by decide +kernel
theorem d_Clo_followThere_36 : decode b_Clo_followThere 36 = .ok (.getfield 58, 3) := by decide +kernel
theorem d_Clo_followThere_39 : decode b_Clo_followThere 39 = .ok (.getfield 67, 3) := by decide +kernel
theorem d_Clo_followThere_42 : decode b_Clo_followThere 42 = .ok (.iload 4, 2) := by decide +kernel
theorem d_Clo_followThere_44 : decode b_Clo_followThere 44 = .ok (.baload, 1) := by decide +kernel
theorem d_Clo_followThere_45 : decode b_Clo_followThere 45 = .ok (.ifCond .ne 13, 3) := by decide +kernel
theorem d_Clo_followThere_48 : decode b_Clo_followThere 48 = .ok (.aload_n 0, 1) := by decide +kernel
theorem d_Clo_followThere_49 : decode b_Clo_followThere 49 = .ok (.iload 4, 2) := by decide +kernel
theorem d_Clo_followThere_51 : decode b_Clo_followThere 51 = .ok (.iload_n 2, 1) := by decide +kernel
theorem d_Clo_followThere_52 : decode b_Clo_followThere 52 = .ok (.iload_n 3, 1) := by decide +kernel
theorem d_Clo_followThere_53 : decode b_Clo_followThere 53 = .ok (.iconst 1, 1) := by decide +kernel
theorem d_Clo_followThere_54 : decode b_Clo_followThere 54 = .ok (.iadd, 1) := by decide +kernel
theorem d_Clo_followThere_55 : decode b_Clo_followThere 55 = .ok (.invokevirtual 71, 3) := by decide +kernel
theorem d_Clo_followThere_58 : decode b_Clo_followThere 58 = .ok (.iinc 4 1, 3) := by decide +kernel
theorem d_Clo_followThere_61 : decode b_Clo_followThere 61 = .ok (.goto (-58), 3) := by decide +kernel
theorem d_Clo_followThere_64 : decode b_Clo_followThere 64 = .ok (.iconst 0, 1) := by decide +kernel
theorem d_Clo_followThere_65 : decode b_Clo_followThere 65 = .ok (.istore 4, 2) := by decide +kernel
theorem d_Clo_followThere_67 : decode b_Clo_followThere 67 = .ok (.iload 4, 2) := by decide +kernel
theorem d_Clo_followThere_69 : decode b_Clo_followThere 69 = .ok (.aload_n 0, 1) := by decide +kernel
theorem d_Clo_followThere_70 : decode b_Clo_followThere 70 = .ok (.getfield 22, 3) := by decide +kernel
theorem d_Clo_followThere_73 : decode b_Clo_followThere 73 = .ok (.getfield 74, 3) := by decide +kernel
theorem d_Clo_followThere_76 : decode b_Clo_followThere 76 = .ok (.if_icmp .ge 110, 3) := by decide +kernel
theorem d_Clo_followThere_79 : decode b_Clo_followThere 79 = .ok (.aload_n 0, 1) := by decide +kernel
theorem d_Clo_followThere_80 : decode b_Clo_followThere 80 = .ok (.getfield 22, 3) := by decide +kernel
theorem d_Clo_followThere_83 : decode b_Clo_followThere 83 = .ok (.getfield 77, 3) := by decide +kernel
theorem d_Clo_followThere_86 : decode b_Clo_followThere 86 = .ok (.getfield 81, 3) := by decide +kernel
theorem d_Clo_followThere_89 : decode b_Clo_followThere 89 = .ok (.iload 4, 2) := by decide +kernel
theorem d_Clo_followThere_91 : decode b_Clo_followThere 91 = .ok (.iaload, 1) := by decide +kernel
theorem d_Clo_followThere_92 : decode b_Clo_followThere 92 = .ok (.iload_n 1, 1) := by decide +kernel
theorem d_Clo_followThere_93 : decode b_Clo_followThere 93 = .ok (.if_icmp .eq 6, 3) := by decide +kernel
theorem d_Clo_followThere_96 : decode b_Clo_followThere 96 = .ok (.goto 84, 3) := by decide +kernel
theorem d_Clo_followThere_99 : decode b_Clo_followThere 99 = .ok (.iload_n 2, 1) := by decide +kernel
theorem d_Clo_followThere_100 : decode b_Clo_followThere 100 = .ok (.ifCond .ne 19, 3) := by decide +kernel
theorem d_Clo_followThere_103 : decode b_Clo_followThere 103 = .ok (.aload_n 0, 1) := by decide +kernel
theorem d_Clo_followThere_104 : decode b_Clo_followThere 104 = .ok (.getfield 22, 3) := by decide +kernel
theorem d_Clo_followThere_107 : decode b_Clo_followThere 107 = .ok (.iload 4, 2) := by decide +kernel
theorem d_Clo_followThere_109 : decode b_Clo_followThere 109 = .ok (.invokevirtual 86, 3) := by decide +kernel
theorem d_Clo_followThere_112 : decode b_Clo_followThere 112 = .ok (.ifCond .eq 7, 3) := by decide +kernel
theorem d_Clo_followThere_115 : decode b_Clo_followThere 115 = .ok (.iconst 1, 1) := by decide +kernel
theorem d_Clo_followThere_116 : decode b_Clo_followThere 116 = .ok (.goto 4, 3) := by decide +kernel
theorem d_Clo_followThere_119 : decode b_Clo_followThere 119 = .ok (.iconst 0, 1) := by decide +kernel
theorem d_Clo_followThere_120 : decode b_Clo_followThere 120 = .ok (.istore 5, 2) := by decide +kernel
theorem d_Clo_followThere_122 : decode b_Clo_followThere 122 = .ok (.aload_n 0, 1) := by decide +kernel
theorem d_Clo_followThere_123 : decode b_Clo_followThere 123 = .ok (.getfield 22, 3) := by decide +kernel
theorem d_Clo_followThere_126 : decode b_Clo_followThere 126 = .ok (.getfield 90, 3) := by decide +kernel
theorem d_Clo_followThere_129 : decode b_Clo_followThere 129 = .ok (.getfield 94, 3) := by decide +kernel
theorem d_Clo_followThere_132 : decode b_Clo_followThere 132 = .ok (.iload_n 1, 1) := by decide +kernel
theorem d_Clo_followThere_133 : decode b_Clo_followThere 133 = .ok (.baload, 1) := by decide +kernel
theorem d_Clo_followThere_134 : decode b_Clo_followThere 134 = .ok (.ifCond .ne 23, 3) := by decide +kernel
theorem d_Clo_followThere_137 : decode b_Clo_followThere 137 = .ok (.aload_n 0, 1) := by decide +kernel
theorem d_Clo_followThere_138 : decode b_Clo_followThere 138 = .ok (.iload 4, 2) := by decide +kernel
theorem d_Clo_followThere_140 : decode b_Clo_followThere 140 = .ok (.iconst 1, 1) := by decide +kernel
theorem d_Clo_followThere_141 : decode b_Clo_followThere 141 = .ok (.iload_n 2, 1) := by decide +kernel
theorem d_Clo_followThere_142 : decode b_Clo_followThere 142 = .ok (.isub, 1) := by decide +kernel
theorem d_Clo_followThere_143 : decode b_Clo_followThere 143 = .ok (.invokevirtual 99, 3) := by decide +kernel
theorem d_Clo_followThere_146 : decode b_Clo_followThere 146 = .ok (.iload_n 3, 1) := by decide +kernel
theorem d_Clo_followThere_147 : decode b_Clo_followThere 147 = .ok (.invokestatic 103, 3) := by decide +kernel
theorem d_Clo_followThere_150 : decode b_Clo_followThere 150 = .ok (.ifCond .eq 7, 3) := by decide +kernel
theorem d_Clo_followThere_153 : decode b_Clo_followThere 153 = .ok (.iconst 1, 1) := by decide +kernel
theorem d_Clo_followThere_154 : decode b_Clo_followThere 154 = .ok (.goto 4, 3) := by decide +kernel
theorem d_Clo_followThere_157 : decode b_Clo_followThere 157 = .ok (.iconst 0, 1) := by decide +kernel
theorem d_Clo_followThere_158 : decode b_Clo_followThere 158 = .ok (.istore 6, 2) := by decide +kernel
theorem d_Clo_followThere_160 : decode b_Clo_followThere 160 = .ok (.iload 5, 2) := by decide +kernel
theorem d_Clo_followThere_162 : decode b_Clo_followThere 162 = .ok (.ifCond .ne 8, 3) := by decide +kernel
theorem d_Clo_followThere_165 : decode b_Clo_followThere 165 = .ok (.iload 6, 2) := by decide +kernel
theorem d_Clo_followThere_167 : decode b_Clo_followThere 167 = .ok (.ifCond .eq 13, 3) := by decide +kernel
theorem d_Clo_followThere_170 : decode b_Clo_followThere 170 = .ok (.aload_n 0, 1) := by decide +kernel
theorem d_Clo_followThere_171 : decode b_Clo_followThere 171 = .ok (.iload 4, 2) := by decide +kernel
theorem d_Clo_followThere_173 : decode b_Clo_followThere 173 = .ok (.iload_n 2, 1) := by decide +kernel
theorem d_Clo_followThere_174 : decode b_Clo_followThere 174 = .ok (.iload_n 3, 1) := by decide +kernel
theorem d_Clo_followThere_175 : decode b_Clo_followThere 175 = .ok (.iconst 1, 1) := by decide +kernel
theorem d_Clo_followThere_176 : decode b_Clo_followThere 176 = .ok (.iadd, 1) := by decide +kernel
theorem d_Clo_followThere_177 : decode b_Clo_followThere 177 = .ok (.invokevirtual 106, 3) := by decide +kernel
theorem d_Clo_followThere_180 : decode b_Clo_followThere 180 = .ok (.iinc 4 1, 3) := by decide +kernel
theorem d_Clo_followThere_183 : decode b_Clo_followThere 183 = .ok (.goto (-116), 3) := by decide +kernel
theorem d_Clo_followThere_186 : decode b_Clo_followThere 186 = .ok (.return_, 1) := by decide +kernel
theorem d_Users_farSide_0 : decode b_Users_farSide 0 = .ok (.aload_n 0, 1) := by decide +kernel
theorem d_Users_farSide_1 : decode b_Users_farSide 1 = .ok (.getfield 32, 3) := by decide +kernel
theorem d_Users_farSide_4 : decode b_Users_farSide 4 = .ok (.iload_n 1, 1) := by decide +kernel
theorem d_Users_farSide_5 : decode b_Users_farSide 5 = .ok (.baload, 1) := by decide +kernel
theorem d_Users_farSide_6 : decode b_Users_farSide 6 = .ok (.ifCond .eq 7, 3) := by decide +kernel
theorem d_Users_farSide_9 : decode b_Users_farSide 9 = .ok (.iconst 1, 1) := by decide +kernel
theorem d_Users_farSide_10 : decode b_Users_farSide 10 = .ok (.goto 4, 3) := by decide +kernel
theorem d_Users_farSide_13 : decode b_Users_farSide 13 = .ok (.iload_n 2, 1) := by decide +kernel
theorem d_Users_farSide_14 : decode b_Users_farSide 14 = .ok (.ireturn, 1) := by decide +kernel
theorem d_Snap_isAskedBy_0 : decode b_Snap_isAskedBy 0 = .ok (.aload_n 0, 1) := by decide +kernel
theorem d_Snap_isAskedBy_1 : decode b_Snap_isAskedBy 1 = .ok (.getfield 41, 3) := by decide +kernel
theorem d_Snap_isAskedBy_4 : decode b_Snap_isAskedBy 4 = .ok (.getfield 83, 3) := by decide +kernel
theorem d_Snap_isAskedBy_7 : decode b_Snap_isAskedBy 7 = .ok (.iload_n 2, 1) := by decide +kernel
theorem d_Snap_isAskedBy_8 : decode b_Snap_isAskedBy 8 = .ok (.iaload, 1) := by decide +kernel
theorem d_Snap_isAskedBy_9 : decode b_Snap_isAskedBy 9 = .ok (.aload_n 0, 1) := by decide +kernel
theorem d_Snap_isAskedBy_10 : decode b_Snap_isAskedBy 10 = .ok (.getfield 45, 3) := by decide +kernel
theorem d_Snap_isAskedBy_13 : decode b_Snap_isAskedBy 13 = .ok (.getfield 86, 3) := by decide +kernel
theorem d_Snap_isAskedBy_16 : decode b_Snap_isAskedBy 16 = .ok (.iload_n 1, 1) := by decide +kernel
theorem d_Snap_isAskedBy_17 : decode b_Snap_isAskedBy 17 = .ok (.iaload, 1) := by decide +kernel
theorem d_Snap_isAskedBy_18 : decode b_Snap_isAskedBy 18 = .ok (.if_icmp .ne 28, 3) := by decide +kernel
theorem d_Snap_isAskedBy_21 : decode b_Snap_isAskedBy 21 = .ok (.aload_n 0, 1) := by decide +kernel
theorem d_Snap_isAskedBy_22 : decode b_Snap_isAskedBy 22 = .ok (.getfield 33, 3) := by decide +kernel
theorem d_Snap_isAskedBy_25 : decode b_Snap_isAskedBy 25 = .ok (.iload_n 1, 1) := by decide +kernel
theorem d_Snap_isAskedBy_26 : decode b_Snap_isAskedBy 26 = .ok (.iaload, 1) := by decide +kernel
theorem d_Snap_isAskedBy_27 : decode b_Snap_isAskedBy 27 = .ok (.aload_n 0, 1) := by decide +kernel
theorem d_Snap_isAskedBy_28 : decode b_Snap_isAskedBy 28 = .ok (.getfield 41, 3) := by decide +kernel
theorem d_Snap_isAskedBy_31 : decode b_Snap_isAskedBy 31 = .ok (.getfield 89, 3) := by decide +kernel
theorem d_Snap_isAskedBy_34 : decode b_Snap_isAskedBy 34 = .ok (.iload_n 2, 1) := by decide +kernel
theorem d_Snap_isAskedBy_35 : decode b_Snap_isAskedBy 35 = .ok (.iaload, 1) := by decide +kernel
theorem d_Snap_isAskedBy_36 : decode b_Snap_isAskedBy 36 = .ok (.invokestatic 79, 3) := by decide +kernel
theorem d_Snap_isAskedBy_39 : decode b_Snap_isAskedBy 39 = .ok (.ifCond .eq 7, 3) := by decide +kernel
theorem d_Snap_isAskedBy_42 : decode b_Snap_isAskedBy 42 = .ok (.iconst 1, 1) := by decide +kernel
theorem d_Snap_isAskedBy_43 : decode b_Snap_isAskedBy 43 = .ok (.goto 4, 3) := by decide +kernel
theorem d_Snap_isAskedBy_46 : decode b_Snap_isAskedBy 46 = .ok (.iconst 0, 1) := by decide +kernel
theorem d_Snap_isAskedBy_47 : decode b_Snap_isAskedBy 47 = .ok (.ireturn, 1) := by decide +kernel
theorem d_Snap_isDefaultFor_0 : decode b_Snap_isDefaultFor 0 = .ok (.aload_n 0, 1) := by decide +kernel
theorem d_Snap_isDefaultFor_1 : decode b_Snap_isDefaultFor 1 = .ok (.getfield 41, 3) := by decide +kernel
theorem d_Snap_isDefaultFor_4 : decode b_Snap_isDefaultFor 4 = .ok (.getfield 83, 3) := by decide +kernel
theorem d_Snap_isDefaultFor_7 : decode b_Snap_isDefaultFor 7 = .ok (.iload_n 2, 1) := by decide +kernel
theorem d_Snap_isDefaultFor_8 : decode b_Snap_isDefaultFor 8 = .ok (.iaload, 1) := by decide +kernel
theorem d_Snap_isDefaultFor_9 : decode b_Snap_isDefaultFor 9 = .ok (.aload_n 0, 1) := by decide +kernel
theorem d_Snap_isDefaultFor_10 : decode b_Snap_isDefaultFor 10 = .ok (.getfield 45, 3) := by decide +kernel
theorem d_Snap_isDefaultFor_13 : decode b_Snap_isDefaultFor 13 = .ok (.getfield 86, 3) := by decide +kernel
theorem d_Snap_isDefaultFor_16 : decode b_Snap_isDefaultFor 16 = .ok (.iload_n 1, 1) := by decide +kernel
theorem d_Snap_isDefaultFor_17 : decode b_Snap_isDefaultFor 17 = .ok (.iaload, 1) := by decide +kernel
theorem d_Snap_isDefaultFor_18 : decode b_Snap_isDefaultFor 18 = .ok (.if_icmp .ne 31, 3) := by decide +kernel
theorem d_Snap_isDefaultFor_21 : decode b_Snap_isDefaultFor 21 = .ok (.aload_n 0, 1) := by decide +kernel
theorem d_Snap_isDefaultFor_22 : decode b_Snap_isDefaultFor 22 = .ok (.getfield 45, 3) := by decide +kernel
theorem d_Snap_isDefaultFor_25 : decode b_Snap_isDefaultFor 25 = .ok (.getfield 92, 3) := by decide +kernel
theorem d_Snap_isDefaultFor_28 : decode b_Snap_isDefaultFor 28 = .ok (.iload_n 1, 1) := by decide +kernel
theorem d_Snap_isDefaultFor_29 : decode b_Snap_isDefaultFor 29 = .ok (.baload, 1) := by decide +kernel
theorem d_Snap_isDefaultFor_30 : decode b_Snap_isDefaultFor 30 = .ok (.ifCond .eq 19, 3) := by decide +kernel
theorem d_Snap_isDefaultFor_33 : decode b_Snap_isDefaultFor 33 = .ok (.aload_n 0, 1) := by decide +kernel
theorem d_Snap_isDefaultFor_34 : decode b_Snap_isDefaultFor 34 = .ok (.getfield 41, 3) := by decide +kernel
theorem d_Snap_isDefaultFor_37 : decode b_Snap_isDefaultFor 37 = .ok (.getfield 96, 3) := by decide +kernel
theorem d_Snap_isDefaultFor_40 : decode b_Snap_isDefaultFor 40 = .ok (.iload_n 2, 1) := by decide +kernel
theorem d_Snap_isDefaultFor_41 : decode b_Snap_isDefaultFor 41 = .ok (.baload, 1) := by decide +kernel
theorem d_Snap_isDefaultFor_42 : decode b_Snap_isDefaultFor 42 = .ok (.ifCond .eq 7, 3) := by decide +kernel
theorem d_Snap_isDefaultFor_45 : decode b_Snap_isDefaultFor 45 = .ok (.iconst 1, 1) := by decide +kernel
theorem d_Snap_isDefaultFor_46 : decode b_Snap_isDefaultFor 46 = .ok (.goto 4, 3) := by decide +kernel
theorem d_Snap_isDefaultFor_49 : decode b_Snap_isDefaultFor 49 = .ok (.iconst 0, 1) := by decide +kernel
theorem d_Snap_isDefaultFor_50 : decode b_Snap_isDefaultFor 50 = .ok (.ireturn, 1) := by decide +kernel
theorem d_Clo_followLive_0 : decode b_Clo_followLive 0 = .ok (.aload_n 0, 1) := by decide +kernel
theorem d_Clo_followLive_1 : decode b_Clo_followLive 1 = .ok (.getfield 22, 3) := by decide +kernel
theorem d_Clo_followLive_4 : decode b_Clo_followLive 4 = .ok (.getfield 58, 3) := by decide +kernel
theorem d_Clo_followLive_7 : decode b_Clo_followLive 7 = .ok (.iload_n 1, 1) := by decide +kernel
theorem d_Clo_followLive_8 : decode b_Clo_followLive 8 = .ok (.iload_n 2, 1) := by decide +kernel
theorem d_Clo_followLive_9 : decode b_Clo_followLive 9 = .ok (.invokevirtual 109, 3) := by decide +kernel
theorem d_Clo_followLive_12 : decode b_Clo_followLive 12 = .ok (.istore 4, 2) := by decide +kernel
theorem d_Clo_followLive_14 : decode b_Clo_followLive 14 = .ok (.aload_n 0, 1) := by decide +kernel
theorem d_Clo_followLive_15 : decode b_Clo_followLive 15 = .ok (.aload_n 0, 1) := by decide +kernel
theorem d_Clo_followLive_16 : decode b_Clo_followLive 16 = .ok (.getfield 22, 3) := by decide +kernel
theorem d_Clo_followLive_19 : decode b_Clo_followLive 19 = .ok (.getfield 58, 3) := by decide +kernel
theorem d_Clo_followLive_22 : decode b_Clo_followLive 22 = .ok (.getfield 112, 3) := by decide +kernel
theorem d_Clo_followLive_25 : decode b_Clo_followLive 25 = .ok (.iload_n 1, 1) := by decide +kernel
theorem d_Clo_followLive_26 : decode b_Clo_followLive 26 = .ok (.iaload, 1) := by decide +kernel
theorem d_Clo_followLive_27 : decode b_Clo_followLive 27 = .ok (.iload 4, 2) := by decide +kernel
theorem d_Clo_followLive_29 : decode b_Clo_followLive 29 = .ok (.iload_n 3, 1) := by decide +kernel
theorem d_Clo_followLive_30 : decode b_Clo_followLive 30 = .ok (.iconst 1, 1) := by decide +kernel
theorem d_Clo_followLive_31 : decode b_Clo_followLive 31 = .ok (.iadd, 1) := by decide +kernel
theorem d_Clo_followLive_32 : decode b_Clo_followLive 32 = .ok (.invokevirtual 38, 3) := by decide +kernel
theorem d_Clo_followLive_35 : decode b_Clo_followLive 35 = .ok (.iconst 0, 1) := by decide +kernel
theorem d_Clo_followLive_36 : decode b_Clo_followLive 36 = .ok (.istore 5, 2) := by decide +kernel
theorem d_Clo_followLive_38 : decode b_Clo_followLive 38 = .ok (.iload 5, 2) := by decide +kernel
theorem d_Clo_followLive_40 : decode b_Clo_followLive 40 = .ok (.aload_n 0, 1) := by decide +kernel
theorem d_Clo_followLive_41 : decode b_Clo_followLive 41 = .ok (.getfield 22, 3) := by decide +kernel
theorem d_Clo_followLive_44 : decode b_Clo_followLive 44 = .ok (.getfield 74, 3) := by decide +kernel
theorem d_Clo_followLive_47 : decode b_Clo_followLive 47 = .ok (.if_icmp .ge 46, 3) := by decide +kernel
theorem d_Clo_followLive_50 : decode b_Clo_followLive 50 = .ok (.aload_n 0, 1) := by decide +kernel
theorem d_Clo_followLive_51 : decode b_Clo_followLive 51 = .ok (.getfield 22, 3) := by decide +kernel
theorem d_Clo_followLive_54 : decode b_Clo_followLive 54 = .ok (.iload_n 1, 1) := by decide +kernel
theorem d_Clo_followLive_55 : decode b_Clo_followLive 55 = .ok (.iload 5, 2) := by decide +kernel
theorem d_Clo_followLive_57 : decode b_Clo_followLive 57 = .ok (.invokevirtual 115, 3) := by decide +kernel
theorem d_Clo_followLive_60 : decode b_Clo_followLive 60 = .ok (.ifCond .ne 16, 3) := by decide +kernel
theorem d_Clo_followLive_63 : decode b_Clo_followLive 63 = .ok (.aload_n 0, 1) := by decide +kernel
theorem d_Clo_followLive_64 : decode b_Clo_followLive 64 = .ok (.getfield 22, 3) := by decide +kernel
theorem d_Clo_followLive_67 : decode b_Clo_followLive 67 = .ok (.iload_n 1, 1) := by decide +kernel
theorem d_Clo_followLive_68 : decode b_Clo_followLive 68 = .ok (.iload 5, 2) := by decide +kernel
theorem d_Clo_followLive_70 : decode b_Clo_followLive 70 = .ok (.invokevirtual 118, 3) := by decide +kernel
theorem d_Clo_followLive_73 : decode b_Clo_followLive 73 = .ok (.ifCond .eq 14, 3) := by decide +kernel
theorem d_Clo_followLive_76 : decode b_Clo_followLive 76 = .ok (.aload_n 0, 1) := by decide +kernel
theorem d_Clo_followLive_77 : decode b_Clo_followLive 77 = .ok (.iload 5, 2) := by decide +kernel
theorem d_Clo_followLive_79 : decode b_Clo_followLive 79 = .ok (.iload 4, 2) := by decide +kernel
theorem d_Clo_followLive_81 : decode b_Clo_followLive 81 = .ok (.iload_n 3, 1) := by decide +kernel
theorem d_Clo_followLive_82 : decode b_Clo_followLive 82 = .ok (.iconst 1, 1) := by decide +kernel
theorem d_Clo_followLive_83 : decode b_Clo_followLive 83 = .ok (.iadd, 1) := by decide +kernel
theorem d_Clo_followLive_84 : decode b_Clo_followLive 84 = .ok (.invokevirtual 106, 3) := by decide +kernel
theorem d_Clo_followLive_87 : decode b_Clo_followLive 87 = .ok (.iinc 5 1, 3) := by decide +kernel
theorem d_Clo_followLive_90 : decode b_Clo_followLive 90 = .ok (.goto (-52), 3) := by decide +kernel
theorem d_Clo_followLive_93 : decode b_Clo_followLive 93 = .ok (.iconst 0, 1) := by decide +kernel
theorem d_Clo_followLive_94 : decode b_Clo_followLive 94 = .ok (.istore 5, 2) := by decide +kernel
theorem d_Clo_followLive_96 : decode b_Clo_followLive 96 = .ok (.iload 5, 2) := by decide +kernel
theorem d_Clo_followLive_98 : decode b_Clo_followLive 98 = .ok (.aload_n 0, 1) := by decide +kernel
theorem d_Clo_followLive_99 : decode b_Clo_followLive 99 = .ok (.getfield 22, 3) := by decide +kernel
theorem d_Clo_followLive_102 : decode b_Clo_followLive 102 = .ok (.getfield 121, 3) := by decide +kernel
theorem d_Clo_followLive_105 : decode b_Clo_followLive 105 = .ok (.if_icmp .ge 90, 3) := by decide +kernel
theorem d_Clo_followLive_108 : decode b_Clo_followLive 108 = .ok (.aload_n 0, 1) := by decide +kernel
theorem d_Clo_followLive_109 : decode b_Clo_followLive 109 = .ok (.getfield 22, 3) := by decide +kernel
theorem d_Clo_followLive_112 : decode b_Clo_followLive 112 = .ok (.getfield 124, 3) := by decide +kernel
theorem d_Clo_followLive_115 : decode b_Clo_followLive 115 = .ok (.getfield 128, 3) := by decide +kernel
theorem d_Clo_followLive_118 : decode b_Clo_followLive 118 = .ok (.iload 5, 2) := by decide +kernel
theorem d_Clo_followLive_120 : decode b_Clo_followLive 120 = .ok (.iaload, 1) := by decide +kernel
theorem d_Clo_followLive_121 : decode b_Clo_followLive 121 = .ok (.iconst 3, 1) := by decide +kernel
theorem d_Clo_followLive_122 : decode b_Clo_followLive 122 = .ok (.if_icmp .ne 67, 3) := by decide +kernel
theorem d_Clo_followLive_125 : decode b_Clo_followLive 125 = .ok (.aload_n 0, 1) := by decide +kernel
theorem d_Clo_followLive_126 : decode b_Clo_followLive 126 = .ok (.getfield 22, 3) := by decide +kernel
theorem d_Clo_followLive_129 : decode b_Clo_followLive 129 = .ok (.getfield 124, 3) := by decide +kernel
theorem d_Clo_followLive_132 : decode b_Clo_followLive 132 = .ok (.getfield 133, 3) := by decide +kernel
theorem d_Clo_followLive_135 : decode b_Clo_followLive 135 = .ok (.iload 5, 2) := by decide +kernel
theorem d_Clo_followLive_137 : decode b_Clo_followLive 137 = .ok (.iaload, 1) := by decide +kernel
theorem d_Clo_followLive_138 : decode b_Clo_followLive 138 = .ok (.iload_n 1, 1) := by decide +kernel
theorem d_Clo_followLive_139 : decode b_Clo_followLive 139 = .ok (.if_icmp .ne 50, 3) := by decide +kernel
theorem d_Clo_followLive_142 : decode b_Clo_followLive 142 = .ok (.aload_n 0, 1) := by decide +kernel
theorem d_Clo_followLive_143 : decode b_Clo_followLive 143 = .ok (.aload_n 0, 1) := by decide +kernel
theorem d_Clo_followLive_144 : decode b_Clo_followLive 144 = .ok (.getfield 22, 3) := by decide +kernel
theorem d_Clo_followLive_147 : decode b_Clo_followLive 147 = .ok (.getfield 124, 3) := by decide +kernel
theorem d_Clo_followLive_150 : decode b_Clo_followLive 150 = .ok (.getfield 136, 3) := by decide +kernel
theorem d_Clo_followLive_153 : decode b_Clo_followLive 153 = .ok (.iload 5, 2) := by decide +kernel
theorem d_Clo_followLive_155 : decode b_Clo_followLive 155 = .ok (.iaload, 1) := by decide +kernel
theorem d_Clo_followLive_156 : decode b_Clo_followLive 156 = .ok (.iload_n 2, 1) := by decide +kernel
theorem d_Clo_followLive_157 : decode b_Clo_followLive 157 = .ok (.invokevirtual 99, 3) := by decide +kernel
theorem d_Clo_followLive_160 : decode b_Clo_followLive 160 = .ok (.iload_n 3, 1) := by decide +kernel
theorem d_Clo_followLive_161 : decode b_Clo_followLive 161 = .ok (.invokestatic 103, 3) := by decide +kernel
theorem d_Clo_followLive_164 : decode b_Clo_followLive 164 = .ok (.ifCond .eq 25, 3) := by decide +kernel
theorem d_Clo_followLive_167 : decode b_Clo_followLive 167 = .ok (.aload_n 0, 1) := by decide +kernel
theorem d_Clo_followLive_168 : decode b_Clo_followLive 168 = .ok (.aload_n 0, 1) := by decide +kernel
theorem d_Clo_followLive_169 : decode b_Clo_followLive 169 = .ok (.getfield 22, 3) := by decide +kernel
theorem d_Clo_followLive_172 : decode b_Clo_followLive 172 = .ok (.getfield 124, 3) := by decide +kernel
theorem d_Clo_followLive_175 : decode b_Clo_followLive 175 = .ok (.getfield 139, 3) := by decide +kernel
theorem d_Clo_followLive_178 : decode b_Clo_followLive 178 = .ok (.iload 5, 2) := by decide +kernel
theorem d_Clo_followLive_180 : decode b_Clo_followLive 180 = .ok (.iaload, 1) := by decide +kernel
theorem d_Clo_followLive_181 : decode b_Clo_followLive 181 = .ok (.iload 4, 2) := by decide +kernel
theorem d_Clo_followLive_183 : decode b_Clo_followLive 183 = .ok (.iload_n 3, 1) := by decide +kernel
theorem d_Clo_followLive_184 : decode b_Clo_followLive 184 = .ok (.iconst 1, 1) := by decide +kernel
theorem d_Clo_followLive_185 : decode b_Clo_followLive 185 = .ok (.iadd, 1) := by decide +kernel
theorem d_Clo_followLive_186 : decode b_Clo_followLive 186 = .ok (.invokevirtual 106, 3) := by decide +kernel
theorem d_Clo_followLive_189 : decode b_Clo_followLive 189 = .ok (.iinc 5 1, 3) := by decide +kernel
theorem d_Clo_followLive_192 : decode b_Clo_followLive 192 = .ok (.goto (-96), 3) := by decide +kernel
theorem d_Clo_followLive_195 : decode b_Clo_followLive 195 = .ok (.return_, 1) := by decide +kernel
theorem d_Clo_thereStage_0 : decode b_Clo_thereStage 0 = .ok (.aload_n 0, 1) := by decide +kernel
theorem d_Clo_thereStage_1 : decode b_Clo_thereStage 1 = .ok (.getfield 9, 3) := by decide +kernel
theorem d_Clo_thereStage_4 : decode b_Clo_thereStage 4 = .ok (.iconst 2, 1) := by decide +kernel
theorem d_Clo_thereStage_5 : decode b_Clo_thereStage 5 = .ok (.iload_n 1, 1) := by decide +kernel
theorem d_Clo_thereStage_6 : decode b_Clo_thereStage 6 = .ok (.imul, 1) := by decide +kernel
theorem d_Clo_thereStage_7 : decode b_Clo_thereStage 7 = .ok (.iload_n 2, 1) := by decide +kernel
theorem d_Clo_thereStage_8 : decode b_Clo_thereStage 8 = .ok (.iadd, 1) := by decide +kernel
theorem d_Clo_thereStage_9 : decode b_Clo_thereStage 9 = .ok (.iaload, 1) := by decide +kernel
theorem d_Clo_thereStage_10 : decode b_Clo_thereStage 10 = .ok (.ireturn, 1) := by decide +kernel
theorem d_Clo_liveStage_0 : decode b_Clo_liveStage 0 = .ok (.aload_n 0, 1) := by decide +kernel
theorem d_Clo_liveStage_1 : decode b_Clo_liveStage 1 = .ok (.getfield 9, 3) := by decide +kernel
theorem d_Clo_liveStage_4 : decode b_Clo_liveStage 4 = .ok (.bipush 20, 2) := by decide +kernel
theorem d_Clo_liveStage_6 : decode b_Clo_liveStage 6 = .ok (.iconst 2, 1) := by decide +kernel
theorem d_Clo_liveStage_7 : decode b_Clo_liveStage 7 = .ok (.iload_n 1, 1) := by decide +kernel
theorem d_Clo_liveStage_8 : decode b_Clo_liveStage 8 = .ok (.imul, 1) := by decide +kernel
theorem d_Clo_liveStage_9 : decode b_Clo_liveStage 9 = .ok (.iadd, 1) := by decide +kernel
theorem d_Clo_liveStage_10 : decode b_Clo_liveStage 10 = .ok (.iload_n 2, 1) := by decide +kernel
theorem d_Clo_liveStage_11 : decode b_Clo_liveStage 11 = .ok (.iadd, 1) := by decide +kernel
theorem d_Clo_liveStage_12 : decode b_Clo_liveStage 12 = .ok (.iaload, 1) := by decide +kernel
theorem d_Clo_liveStage_13 : decode b_Clo_liveStage 13 = .ok (.ireturn, 1) := by decide +kernel
theorem d_Clo_followTurn_0 : decode b_Clo_followTurn 0 = .ok (.aload_n 0, 1) := by decide +kernel
theorem d_Clo_followTurn_1 : decode b_Clo_followTurn 1 = .ok (.getfield 22, 3) := by decide +kernel
theorem d_Clo_followTurn_4 : decode b_Clo_followTurn 4 = .ok (.getfield 124, 3) := by decide +kernel
theorem d_Clo_followTurn_7 : decode b_Clo_followTurn 7 = .ok (.getfield 128, 3) := by decide +kernel
theorem d_Clo_followTurn_10 : decode b_Clo_followTurn 10 = .ok (.iload_n 1, 1) := by decide +kernel
theorem d_Clo_followTurn_11 : decode b_Clo_followTurn 11 = .ok (.iaload, 1) := by decide +kernel
theorem d_Clo_followTurn_12 : decode b_Clo_followTurn 12 = .ok (.istore 4, 2) := by decide +kernel
theorem d_Clo_followTurn_14 : decode b_Clo_followTurn 14 = .ok (.aload_n 0, 1) := by decide +kernel
theorem d_Clo_followTurn_15 : decode b_Clo_followTurn 15 = .ok (.getfield 22, 3) := by decide +kernel
theorem d_Clo_followTurn_18 : decode b_Clo_followTurn 18 = .ok (.getfield 124, 3) := by decide +kernel
theorem d_Clo_followTurn_21 : decode b_Clo_followTurn 21 = .ok (.getfield 139, 3) := by decide +kernel
theorem d_Clo_followTurn_24 : decode b_Clo_followTurn 24 = .ok (.iload_n 1, 1) := by decide +kernel
theorem d_Clo_followTurn_25 : decode b_Clo_followTurn 25 = .ok (.iaload, 1) := by decide +kernel
theorem d_Clo_followTurn_26 : decode b_Clo_followTurn 26 = .ok (.istore 5, 2) := by decide +kernel
theorem d_Clo_followTurn_28 : decode b_Clo_followTurn 28 = .ok (.iload 4, 2) := by decide +kernel
theorem d_Clo_followTurn_30 : decode b_Clo_followTurn 30 = .ok (.ifCond .ne 14, 3) := by decide +kernel
theorem d_Clo_followTurn_33 : decode b_Clo_followTurn 33 = .ok (.aload_n 0, 1) := by decide +kernel
theorem d_Clo_followTurn_34 : decode b_Clo_followTurn 34 = .ok (.iload 5, 2) := by decide +kernel
theorem d_Clo_followTurn_36 : decode b_Clo_followTurn 36 = .ok (.iload_n 2, 1) := by decide +kernel
theorem d_Clo_followTurn_37 : decode b_Clo_followTurn 37 = .ok (.iload_n 3, 1) := by decide +kernel
theorem d_Clo_followTurn_38 : decode b_Clo_followTurn 38 = .ok (.iconst 1, 1) := by decide +kernel
theorem d_Clo_followTurn_39 : decode b_Clo_followTurn 39 = .ok (.iadd, 1) := by decide +kernel
theorem d_Clo_followTurn_40 : decode b_Clo_followTurn 40 = .ok (.invokevirtual 106, 3) := by decide +kernel
theorem d_Clo_followTurn_43 : decode b_Clo_followTurn 43 = .ok (.return_, 1) := by decide +kernel
theorem d_Clo_followTurn_44 : decode b_Clo_followTurn 44 = .ok (.aload_n 0, 1) := by decide +kernel
theorem d_Clo_followTurn_45 : decode b_Clo_followTurn 45 = .ok (.getfield 22, 3) := by decide +kernel
theorem d_Clo_followTurn_48 : decode b_Clo_followTurn 48 = .ok (.getfield 124, 3) := by decide +kernel
theorem d_Clo_followTurn_51 : decode b_Clo_followTurn 51 = .ok (.getfield 133, 3) := by decide +kernel
theorem d_Clo_followTurn_54 : decode b_Clo_followTurn 54 = .ok (.iload_n 1, 1) := by decide +kernel
theorem d_Clo_followTurn_55 : decode b_Clo_followTurn 55 = .ok (.iaload, 1) := by decide +kernel
theorem d_Clo_followTurn_56 : decode b_Clo_followTurn 56 = .ok (.istore 6, 2) := by decide +kernel
theorem d_Clo_followTurn_58 : decode b_Clo_followTurn 58 = .ok (.aload_n 0, 1) := by decide +kernel
theorem d_Clo_followTurn_59 : decode b_Clo_followTurn 59 = .ok (.getfield 22, 3) := by decide +kernel
theorem d_Clo_followTurn_62 : decode b_Clo_followTurn 62 = .ok (.iload 6, 2) := by decide +kernel
theorem d_Clo_followTurn_64 : decode b_Clo_followTurn 64 = .ok (.invokevirtual 148, 3) := by decide +kernel
theorem d_Clo_followTurn_67 : decode b_Clo_followTurn 67 = .ok (.ifCond .ne 4, 3) := by decide +kernel
theorem d_Clo_followTurn_70 : decode b_Clo_followTurn 70 = .ok (.return_, 1) := by decide +kernel
theorem d_Clo_followTurn_71 : decode b_Clo_followTurn 71 = .ok (.iload 4, 2) := by decide +kernel
theorem d_Clo_followTurn_73 : decode b_Clo_followTurn 73 = .ok (.iconst 1, 1) := by decide +kernel
theorem d_Clo_followTurn_74 : decode b_Clo_followTurn 74 = .ok (.if_icmp .eq 9, 3) := by decide +kernel
theorem d_Clo_followTurn_77 : decode b_Clo_followTurn 77 = .ok (.iload 4, 2) := by decide +kernel
theorem d_Clo_followTurn_79 : decode b_Clo_followTurn 79 = .ok (.iconst 2, 1) := by decide +kernel
theorem d_Clo_followTurn_80 : decode b_Clo_followTurn 80 = .ok (.if_icmp .ne 13, 3) := by decide +kernel
theorem d_Clo_followTurn_83 : decode b_Clo_followTurn 83 = .ok (.aload_n 0, 1) := by decide +kernel
theorem d_Clo_followTurn_84 : decode b_Clo_followTurn 84 = .ok (.iload 6, 2) := by decide +kernel
theorem d_Clo_followTurn_86 : decode b_Clo_followTurn 86 = .ok (.iload_n 2, 1) := by decide +kernel
theorem d_Clo_followTurn_87 : decode b_Clo_followTurn 87 = .ok (.iload_n 3, 1) := by decide +kernel
theorem d_Clo_followTurn_88 : decode b_Clo_followTurn 88 = .ok (.iconst 1, 1) := by decide +kernel
theorem d_Clo_followTurn_89 : decode b_Clo_followTurn 89 = .ok (.iadd, 1) := by decide +kernel
theorem d_Clo_followTurn_90 : decode b_Clo_followTurn 90 = .ok (.invokevirtual 71, 3) := by decide +kernel
theorem d_Clo_followTurn_93 : decode b_Clo_followTurn 93 = .ok (.iload 4, 2) := by decide +kernel
theorem d_Clo_followTurn_95 : decode b_Clo_followTurn 95 = .ok (.iconst 2, 1) := by decide +kernel
theorem d_Clo_followTurn_96 : decode b_Clo_followTurn 96 = .ok (.if_icmp .eq 23, 3) := by decide +kernel
theorem d_Clo_followTurn_99 : decode b_Clo_followTurn 99 = .ok (.iload 4, 2) := by decide +kernel
theorem d_Clo_followTurn_101 : decode b_Clo_followTurn 101 = .ok (.iconst 3, 1) := by decide +kernel
theorem d_Clo_followTurn_102 : decode b_Clo_followTurn 102 = .ok (.if_icmp .ne 39, 3) := by decide +kernel
theorem d_Clo_followTurn_105 : decode b_Clo_followTurn 105 = .ok (.aload_n 0, 1) := by decide +kernel
theorem d_Clo_followTurn_106 : decode b_Clo_followTurn 106 = .ok (.iload 6, 2) := by decide +kernel
theorem d_Clo_followTurn_108 : decode b_Clo_followTurn 108 = .ok (.iload_n 2, 1) := by decide +kernel
theorem d_Clo_followTurn_109 : decode b_Clo_followTurn 109 = .ok (.invokevirtual 151, 3) := by decide +kernel
theorem d_Clo_followTurn_112 : decode b_Clo_followTurn 112 = .ok (.iload_n 3, 1) := by decide +kernel
theorem d_Clo_followTurn_113 : decode b_Clo_followTurn 113 = .ok (.invokestatic 103, 3) := by decide +kernel
theorem d_Clo_followTurn_116 : decode b_Clo_followTurn 116 = .ok (.ifCond .eq 25, 3) := by decide +kernel
theorem d_Clo_followTurn_119 : decode b_Clo_followTurn 119 = .ok (.aload_n 0, 1) := by decide +kernel
theorem d_Clo_followTurn_120 : decode b_Clo_followTurn 120 = .ok (.iload 5, 2) := by decide +kernel
theorem d_Clo_followTurn_122 : decode b_Clo_followTurn 122 = .ok (.aload_n 0, 1) := by decide +kernel
theorem d_Clo_followTurn_123 : decode b_Clo_followTurn 123 = .ok (.getfield 22, 3) := by decide +kernel
theorem d_Clo_followTurn_126 : decode b_Clo_followTurn 126 = .ok (.getfield 58, 3) := by decide +kernel
theorem d_Clo_followTurn_129 : decode b_Clo_followTurn 129 = .ok (.iload 6, 2) := by decide +kernel
theorem d_Clo_followTurn_131 : decode b_Clo_followTurn 131 = .ok (.iload_n 2, 1) := by decide +kernel
theorem d_Clo_followTurn_132 : decode b_Clo_followTurn 132 = .ok (.invokevirtual 109, 3) := by decide +kernel
theorem d_Clo_followTurn_135 : decode b_Clo_followTurn 135 = .ok (.iload_n 3, 1) := by decide +kernel
theorem d_Clo_followTurn_136 : decode b_Clo_followTurn 136 = .ok (.iconst 1, 1) := by decide +kernel
theorem d_Clo_followTurn_137 : decode b_Clo_followTurn 137 = .ok (.iadd, 1) := by decide +kernel
theorem d_Clo_followTurn_138 : decode b_Clo_followTurn 138 = .ok (.invokevirtual 106, 3) := by decide +kernel
theorem d_Clo_followTurn_141 : decode b_Clo_followTurn 141 = .ok (.return_, 1) := by decide +kernel
end
section
theorem d_Clo_followOn_0 : decode b_Clo_followOn 0 = .ok (.aload_n 0, 1) := by decide +kernel
theorem d_Clo_followOn_1 : decode b_Clo_followOn 1 = .ok (.getfield 22, 3) := by decide +kernel
theorem d_Clo_followOn_4 : decode b_Clo_followOn 4 = .ok (.getfield 77, 3) := by decide +kernel
theorem d_Clo_followOn_7 : decode b_Clo_followOn 7 = .ok (.getfield 81, 3) := by decide +kernel
theorem d_Clo_followOn_10 : decode b_Clo_followOn 10 = .ok (.iload_n 1, 1) := by decide +kernel
theorem d_Clo_followOn_11 : decode b_Clo_followOn 11 = .ok (.iaload, 1) := by decide +kernel
theorem d_Clo_followOn_12 : decode b_Clo_followOn 12 = .ok (.istore 4, 2) := by decide +kernel
theorem d_Clo_followOn_14 : decode b_Clo_followOn 14 = .ok (.aload_n 0, 1) := by decide +kernel
theorem d_Clo_followOn_15 : decode b_Clo_followOn 15 = .ok (.getfield 22, 3) := by decide +kernel
theorem d_Clo_followOn_18 : decode b_Clo_followOn 18 = .ok (.getfield 90, 3) := by decide +kernel
theorem d_Clo_followOn_21 : decode b_Clo_followOn 21 = .ok (.getfield 94, 3) := by decide +kernel
theorem d_Clo_followOn_24 : decode b_Clo_followOn 24 = .ok (.iload 4, 2) := by decide +kernel
theorem d_Clo_followOn_26 : decode b_Clo_followOn 26 = .ok (.baload, 1) := by decide +kernel
theorem d_Clo_followOn_27 : decode b_Clo_followOn 27 = .ok (.ifCond .ne 30, 3) := by decide +kernel
theorem d_Clo_followOn_30 : decode b_Clo_followOn 30 = .ok (.aload_n 0, 1) := by decide +kernel
theorem d_Clo_followOn_31 : decode b_Clo_followOn 31 = .ok (.iload 4, 2) := by decide +kernel
theorem d_Clo_followOn_33 : decode b_Clo_followOn 33 = .ok (.iconst 1, 1) := by decide +kernel
theorem d_Clo_followOn_34 : decode b_Clo_followOn 34 = .ok (.iload_n 2, 1) := by decide +kernel
theorem d_Clo_followOn_35 : decode b_Clo_followOn 35 = .ok (.isub, 1) := by decide +kernel
theorem d_Clo_followOn_36 : decode b_Clo_followOn 36 = .ok (.invokevirtual 142, 3) := by decide +kernel
theorem d_Clo_followOn_39 : decode b_Clo_followOn 39 = .ok (.iload_n 3, 1) := by decide +kernel
theorem d_Clo_followOn_40 : decode b_Clo_followOn 40 = .ok (.invokestatic 103, 3) := by decide +kernel
theorem d_Clo_followOn_43 : decode b_Clo_followOn 43 = .ok (.ifCond .eq 14, 3) := by decide +kernel
theorem d_Clo_followOn_46 : decode b_Clo_followOn 46 = .ok (.aload_n 0, 1) := by decide +kernel
theorem d_Clo_followOn_47 : decode b_Clo_followOn 47 = .ok (.iload_n 1, 1) := by decide +kernel
theorem d_Clo_followOn_48 : decode b_Clo_followOn 48 = .ok (.iconst 1, 1) := by decide +kernel
theorem d_Clo_followOn_49 : decode b_Clo_followOn 49 = .ok (.iload_n 2, 1) := by decide +kernel
theorem d_Clo_followOn_50 : decode b_Clo_followOn 50 = .ok (.isub, 1) := by decide +kernel
theorem d_Clo_followOn_51 : decode b_Clo_followOn 51 = .ok (.iload_n 3, 1) := by decide +kernel
theorem d_Clo_followOn_52 : decode b_Clo_followOn 52 = .ok (.iconst 1, 1) := by decide +kernel
theorem d_Clo_followOn_53 : decode b_Clo_followOn 53 = .ok (.iadd, 1) := by decide +kernel
theorem d_Clo_followOn_54 : decode b_Clo_followOn 54 = .ok (.invokevirtual 106, 3) := by decide +kernel
theorem d_Clo_followOn_57 : decode b_Clo_followOn 57 = .ok (.iconst 0, 1) := by decide +kernel
theorem d_Clo_followOn_58 : decode b_Clo_followOn 58 = .ok (.istore 5, 2) := by decide +kernel
theorem d_Clo_followOn_60 : decode b_Clo_followOn 60 = .ok (.iload 5, 2) := by decide +kernel
theorem d_Clo_followOn_62 : decode b_Clo_followOn 62 = .ok (.aload_n 0, 1) := by decide +kernel
theorem d_Clo_followOn_63 : decode b_Clo_followOn 63 = .ok (.getfield 22, 3) := by decide +kernel
theorem d_Clo_followOn_66 : decode b_Clo_followOn 66 = .ok (.getfield 121, 3) := by decide +kernel
theorem d_Clo_followOn_69 : decode b_Clo_followOn 69 = .ok (.if_icmp .ge 34, 3) := by decide +kernel
theorem d_Clo_followOn_72 : decode b_Clo_followOn 72 = .ok (.aload_n 0, 1) := by decide +kernel
theorem d_Clo_followOn_73 : decode b_Clo_followOn 73 = .ok (.getfield 22, 3) := by decide +kernel
theorem d_Clo_followOn_76 : decode b_Clo_followOn 76 = .ok (.getfield 124, 3) := by decide +kernel
theorem d_Clo_followOn_79 : decode b_Clo_followOn 79 = .ok (.getfield 136, 3) := by decide +kernel
theorem d_Clo_followOn_82 : decode b_Clo_followOn 82 = .ok (.iload 5, 2) := by decide +kernel
theorem d_Clo_followOn_84 : decode b_Clo_followOn 84 = .ok (.iaload, 1) := by decide +kernel
theorem d_Clo_followOn_85 : decode b_Clo_followOn 85 = .ok (.iload_n 1, 1) := by decide +kernel
theorem d_Clo_followOn_86 : decode b_Clo_followOn 86 = .ok (.if_icmp .ne 11, 3) := by decide +kernel
theorem d_Clo_followOn_89 : decode b_Clo_followOn 89 = .ok (.aload_n 0, 1) := by decide +kernel
theorem d_Clo_followOn_90 : decode b_Clo_followOn 90 = .ok (.iload 5, 2) := by decide +kernel
theorem d_Clo_followOn_92 : decode b_Clo_followOn 92 = .ok (.iload_n 2, 1) := by decide +kernel
theorem d_Clo_followOn_93 : decode b_Clo_followOn 93 = .ok (.iload_n 3, 1) := by decide +kernel
theorem d_Clo_followOn_94 : decode b_Clo_followOn 94 = .ok (.invokevirtual 145, 3) := by decide +kernel
theorem d_Clo_followOn_97 : decode b_Clo_followOn 97 = .ok (.iinc 5 1, 3) := by decide +kernel
theorem d_Clo_followOn_100 : decode b_Clo_followOn 100 = .ok (.goto (-40), 3) := by decide +kernel
theorem d_Clo_followOn_103 : decode b_Clo_followOn 103 = .ok (.return_, 1) := by decide +kernel
theorem d_Clo_follow_0 : decode b_Clo_follow 0 = .ok (.iload_n 1, 1) := by decide +kernel
theorem d_Clo_follow_1 : decode b_Clo_follow 1 = .ok (.iconst 2, 1) := by decide +kernel
theorem d_Clo_follow_2 : decode b_Clo_follow 2 = .ok (.irem, 1) := by decide +kernel
theorem d_Clo_follow_3 : decode b_Clo_follow 3 = .ok (.istore_n 2, 1) := by decide +kernel
theorem d_Clo_follow_4 : decode b_Clo_follow 4 = .ok (.aload_n 0, 1) := by decide +kernel
theorem d_Clo_follow_5 : decode b_Clo_follow 5 = .ok (.getfield 9, 3) := by decide +kernel
theorem d_Clo_follow_8 : decode b_Clo_follow 8 = .ok (.iload_n 1, 1) := by decide +kernel
theorem d_Clo_follow_9 : decode b_Clo_follow 9 = .ok (.iaload, 1) := by decide +kernel
theorem d_Clo_follow_10 : decode b_Clo_follow 10 = .ok (.istore_n 3, 1) := by decide +kernel
theorem d_Clo_follow_11 : decode b_Clo_follow 11 = .ok (.iload_n 1, 1) := by decide +kernel
theorem d_Clo_follow_12 : decode b_Clo_follow 12 = .ok (.bipush 20, 2) := by decide +kernel
theorem d_Clo_follow_14 : decode b_Clo_follow 14 = .ok (.if_icmp .ge 15, 3) := by decide +kernel
theorem d_Clo_follow_17 : decode b_Clo_follow 17 = .ok (.aload_n 0, 1) := by decide +kernel
theorem d_Clo_follow_18 : decode b_Clo_follow 18 = .ok (.iload_n 1, 1) := by decide +kernel
theorem d_Clo_follow_19 : decode b_Clo_follow 19 = .ok (.iconst 2, 1) := by decide +kernel
theorem d_Clo_follow_20 : decode b_Clo_follow 20 = .ok (.idiv, 1) := by decide +kernel
theorem d_Clo_follow_21 : decode b_Clo_follow 21 = .ok (.iload_n 2, 1) := by decide +kernel
theorem d_Clo_follow_22 : decode b_Clo_follow 22 = .ok (.iload_n 3, 1) := by decide +kernel
theorem d_Clo_follow_23 : decode b_Clo_follow 23 = .ok (.invokevirtual 46, 3) := by decide +kernel
theorem d_Clo_follow_26 : decode b_Clo_follow 26 = .ok (.goto 36, 3) := by decide +kernel
theorem d_Clo_follow_29 : decode b_Clo_follow 29 = .ok (.iload_n 1, 1) := by decide +kernel
theorem d_Clo_follow_30 : decode b_Clo_follow 30 = .ok (.bipush 100, 2) := by decide +kernel
theorem d_Clo_follow_32 : decode b_Clo_follow 32 = .ok (.if_icmp .ge 18, 3) := by decide +kernel
theorem d_Clo_follow_35 : decode b_Clo_follow 35 = .ok (.aload_n 0, 1) := by decide +kernel
theorem d_Clo_follow_36 : decode b_Clo_follow 36 = .ok (.iload_n 1, 1) := by decide +kernel
theorem d_Clo_follow_37 : decode b_Clo_follow 37 = .ok (.bipush 20, 2) := by decide +kernel
theorem d_Clo_follow_39 : decode b_Clo_follow 39 = .ok (.isub, 1) := by decide +kernel
theorem d_Clo_follow_40 : decode b_Clo_follow 40 = .ok (.iconst 2, 1) := by decide +kernel
theorem d_Clo_follow_41 : decode b_Clo_follow 41 = .ok (.idiv, 1) := by decide +kernel
theorem d_Clo_follow_42 : decode b_Clo_follow 42 = .ok (.iload_n 2, 1) := by decide +kernel
theorem d_Clo_follow_43 : decode b_Clo_follow 43 = .ok (.iload_n 3, 1) := by decide +kernel
theorem d_Clo_follow_44 : decode b_Clo_follow 44 = .ok (.invokevirtual 49, 3) := by decide +kernel
theorem d_Clo_follow_47 : decode b_Clo_follow 47 = .ok (.goto 15, 3) := by decide +kernel
theorem d_Clo_follow_50 : decode b_Clo_follow 50 = .ok (.aload_n 0, 1) := by decide +kernel
theorem d_Clo_follow_51 : decode b_Clo_follow 51 = .ok (.iload_n 1, 1) := by decide +kernel
theorem d_Clo_follow_52 : decode b_Clo_follow 52 = .ok (.bipush 100, 2) := by decide +kernel
theorem d_Clo_follow_54 : decode b_Clo_follow 54 = .ok (.isub, 1) := by decide +kernel
theorem d_Clo_follow_55 : decode b_Clo_follow 55 = .ok (.iconst 2, 1) := by decide +kernel
theorem d_Clo_follow_56 : decode b_Clo_follow 56 = .ok (.idiv, 1) := by decide +kernel
theorem d_Clo_follow_57 : decode b_Clo_follow 57 = .ok (.iload_n 2, 1) := by decide +kernel
theorem d_Clo_follow_58 : decode b_Clo_follow 58 = .ok (.iload_n 3, 1) := by decide +kernel
theorem d_Clo_follow_59 : decode b_Clo_follow 59 = .ok (.invokevirtual 52, 3) := by decide +kernel
theorem d_Clo_follow_62 : decode b_Clo_follow 62 = .ok (.return_, 1) := by decide +kernel
theorem d_Clo_close_0 : decode b_Clo_close 0 = .ok (.iconst 0, 1) := by decide +kernel
theorem d_Clo_close_1 : decode b_Clo_close 1 = .ok (.istore_n 1, 1) := by decide +kernel
theorem d_Clo_close_2 : decode b_Clo_close 2 = .ok (.iload_n 1, 1) := by decide +kernel
theorem d_Clo_close_3 : decode b_Clo_close 3 = .ok (.sipush 220, 3) := by decide +kernel
theorem d_Clo_close_6 : decode b_Clo_close 6 = .ok (.if_icmp .ge 16, 3) := by decide +kernel
theorem d_Clo_close_9 : decode b_Clo_close 9 = .ok (.aload_n 0, 1) := by decide +kernel
theorem d_Clo_close_10 : decode b_Clo_close 10 = .ok (.getfield 9, 3) := by decide +kernel
theorem d_Clo_close_13 : decode b_Clo_close 13 = .ok (.iload_n 1, 1) := by decide +kernel
theorem d_Clo_close_14 : decode b_Clo_close 14 = .ok (.iconst 0, 1) := by decide +kernel
theorem d_Clo_close_15 : decode b_Clo_close 15 = .ok (.iastore, 1) := by decide +kernel
theorem d_Clo_close_16 : decode b_Clo_close 16 = .ok (.iinc 1 1, 3) := by decide +kernel
theorem d_Clo_close_19 : decode b_Clo_close 19 = .ok (.goto (-17), 3) := by decide +kernel
theorem d_Clo_close_22 : decode b_Clo_close 22 = .ok (.aload_n 0, 1) := by decide +kernel
theorem d_Clo_close_23 : decode b_Clo_close 23 = .ok (.iconst 0, 1) := by decide +kernel
theorem d_Clo_close_24 : decode b_Clo_close 24 = .ok (.putfield 18, 3) := by decide +kernel
theorem d_Clo_close_27 : decode b_Clo_close 27 = .ok (.iconst 0, 1) := by decide +kernel
theorem d_Clo_close_28 : decode b_Clo_close 28 = .ok (.istore_n 1, 1) := by decide +kernel
theorem d_Clo_close_29 : decode b_Clo_close 29 = .ok (.iload_n 1, 1) := by decide +kernel
theorem d_Clo_close_30 : decode b_Clo_close 30 = .ok (.aload_n 0, 1) := by decide +kernel
theorem d_Clo_close_31 : decode b_Clo_close 31 = .ok (.getfield 22, 3) := by decide +kernel
theorem d_Clo_close_34 : decode b_Clo_close 34 = .ok (.getfield 26, 3) := by decide +kernel
theorem d_Clo_close_37 : decode b_Clo_close 37 = .ok (.if_icmp .ge 30, 3) := by decide +kernel
theorem d_Clo_close_40 : decode b_Clo_close 40 = .ok (.aload_n 0, 1) := by decide +kernel
theorem d_Clo_close_41 : decode b_Clo_close 41 = .ok (.getfield 22, 3) := by decide +kernel
theorem d_Clo_close_44 : decode b_Clo_close 44 = .ok (.getfield 31, 3) := by decide +kernel
theorem d_Clo_close_47 : decode b_Clo_close 47 = .ok (.iload_n 1, 1) := by decide +kernel
theorem d_Clo_close_48 : decode b_Clo_close 48 = .ok (.invokestatic 34, 3) := by decide +kernel
theorem d_Clo_close_51 : decode b_Clo_close 51 = .ok (.ifCond .eq 10, 3) := by decide +kernel
theorem d_Clo_close_54 : decode b_Clo_close 54 = .ok (.aload_n 0, 1) := by decide +kernel
theorem d_Clo_close_55 : decode b_Clo_close 55 = .ok (.iload_n 1, 1) := by decide +kernel
theorem d_Clo_close_56 : decode b_Clo_close 56 = .ok (.iconst 0, 1) := by decide +kernel
theorem d_Clo_close_57 : decode b_Clo_close 57 = .ok (.iconst 1, 1) := by decide +kernel
theorem d_Clo_close_58 : decode b_Clo_close 58 = .ok (.invokevirtual 38, 3) := by decide +kernel
theorem d_Clo_close_61 : decode b_Clo_close 61 = .ok (.iinc 1 1, 3) := by decide +kernel
theorem d_Clo_close_64 : decode b_Clo_close 64 = .ok (.goto (-35), 3) := by decide +kernel
theorem d_Clo_close_67 : decode b_Clo_close 67 = .ok (.iconst 0, 1) := by decide +kernel
theorem d_Clo_close_68 : decode b_Clo_close 68 = .ok (.istore_n 1, 1) := by decide +kernel
theorem d_Clo_close_69 : decode b_Clo_close 69 = .ok (.iload_n 1, 1) := by decide +kernel
theorem d_Clo_close_70 : decode b_Clo_close 70 = .ok (.aload_n 0, 1) := by decide +kernel
theorem d_Clo_close_71 : decode b_Clo_close 71 = .ok (.getfield 18, 3) := by decide +kernel
theorem d_Clo_close_74 : decode b_Clo_close 74 = .ok (.if_icmp .ge 26, 3) := by decide +kernel
theorem d_Clo_close_77 : decode b_Clo_close 77 = .ok (.iload_n 1, 1) := by decide +kernel
theorem d_Clo_close_78 : decode b_Clo_close 78 = .ok (.sipush 220, 3) := by decide +kernel
theorem d_Clo_close_81 : decode b_Clo_close 81 = .ok (.if_icmp .ge 19, 3) := by decide +kernel
theorem d_Clo_close_84 : decode b_Clo_close 84 = .ok (.aload_n 0, 1) := by decide +kernel
theorem d_Clo_close_85 : decode b_Clo_close 85 = .ok (.aload_n 0, 1) := by decide +kernel
theorem d_Clo_close_86 : decode b_Clo_close 86 = .ok (.getfield 15, 3) := by decide +kernel
theorem d_Clo_close_89 : decode b_Clo_close 89 = .ok (.iload_n 1, 1) := by decide +kernel
theorem d_Clo_close_90 : decode b_Clo_close 90 = .ok (.iaload, 1) := by decide +kernel
theorem d_Clo_close_91 : decode b_Clo_close 91 = .ok (.invokevirtual 42, 3) := by decide +kernel
theorem d_Clo_close_94 : decode b_Clo_close 94 = .ok (.iinc 1 1, 3) := by decide +kernel
theorem d_Clo_close_97 : decode b_Clo_close 97 = .ok (.goto (-28), 3) := by decide +kernel
theorem d_Clo_close_100 : decode b_Clo_close 100 = .ok (.return_, 1) := by decide +kernel
theorem d_Clo_greatestStage_0 : decode b_Clo_greatestStage 0 = .ok (.aload_n 0, 1) := by decide +kernel
theorem d_Clo_greatestStage_1 : decode b_Clo_greatestStage 1 = .ok (.getfield 18, 3) := by decide +kernel
theorem d_Clo_greatestStage_4 : decode b_Clo_greatestStage 4 = .ok (.ifCond .ne 7, 3) := by decide +kernel
theorem d_Clo_greatestStage_7 : decode b_Clo_greatestStage 7 = .ok (.iconst 0, 1) := by decide +kernel
theorem d_Clo_greatestStage_8 : decode b_Clo_greatestStage 8 = .ok (.goto 19, 3) := by decide +kernel
theorem d_Clo_greatestStage_11 : decode b_Clo_greatestStage 11 = .ok (.aload_n 0, 1) := by decide +kernel
theorem d_Clo_greatestStage_12 : decode b_Clo_greatestStage 12 = .ok (.getfield 9, 3) := by decide +kernel
theorem d_Clo_greatestStage_15 : decode b_Clo_greatestStage 15 = .ok (.aload_n 0, 1) := by decide +kernel
theorem d_Clo_greatestStage_16 : decode b_Clo_greatestStage 16 = .ok (.getfield 15, 3) := by decide +kernel
theorem d_Clo_greatestStage_19 : decode b_Clo_greatestStage 19 = .ok (.aload_n 0, 1) := by decide +kernel
theorem d_Clo_greatestStage_20 : decode b_Clo_greatestStage 20 = .ok (.getfield 18, 3) := by decide +kernel
theorem d_Clo_greatestStage_23 : decode b_Clo_greatestStage 23 = .ok (.iconst 1, 1) := by decide +kernel
theorem d_Clo_greatestStage_24 : decode b_Clo_greatestStage 24 = .ok (.isub, 1) := by decide +kernel
theorem d_Clo_greatestStage_25 : decode b_Clo_greatestStage 25 = .ok (.iaload, 1) := by decide +kernel
theorem d_Clo_greatestStage_26 : decode b_Clo_greatestStage 26 = .ok (.iaload, 1) := by decide +kernel
theorem d_Clo_greatestStage_27 : decode b_Clo_greatestStage 27 = .ok (.ireturn, 1) := by decide +kernel
theorem d_FU_run_0 : decode b_FU_run 0 = .ok (.iload_n 1, 1) := by decide +kernel
theorem d_FU_run_1 : decode b_FU_run 1 = .ok (.bipush 8, 2) := by decide +kernel
theorem d_FU_run_3 : decode b_FU_run 3 = .ok (.invokestatic 90, 3) := by decide +kernel
theorem d_FU_run_6 : decode b_FU_run 6 = .ok (.ifCond .ne 5, 3) := by decide +kernel
theorem d_FU_run_9 : decode b_FU_run 9 = .ok (.iconst (-1), 1) := by decide +kernel
theorem d_FU_run_10 : decode b_FU_run 10 = .ok (.ireturn, 1) := by decide +kernel
theorem d_FU_run_11 : decode b_FU_run 11 = .ok (.aload_n 0, 1) := by decide +kernel
theorem d_FU_run_12 : decode b_FU_run 12 = .ok (.getfield 42, 3) := by decide +kernel
theorem d_FU_run_15 : decode b_FU_run 15 = .ok (.iload_n 1, 1) := by decide +kernel
theorem d_FU_run_16 : decode b_FU_run 16 = .ok (.invokevirtual 142, 3) := by decide +kernel
theorem d_FU_run_19 : decode b_FU_run 19 = .ok (.aload_n 0, 1) := by decide +kernel
theorem d_FU_run_20 : decode b_FU_run 20 = .ok (.getfield 51, 3) := by decide +kernel
theorem d_FU_run_23 : decode b_FU_run 23 = .ok (.invokevirtual 146, 3) := by decide +kernel
theorem d_FU_run_26 : decode b_FU_run 26 = .ok (.aload_n 0, 1) := by decide +kernel
theorem d_FU_run_27 : decode b_FU_run 27 = .ok (.iconst 1, 1) := by decide +kernel
theorem d_FU_run_28 : decode b_FU_run 28 = .ok (.putfield 75, 3) := by decide +kernel
theorem d_FU_run_31 : decode b_FU_run 31 = .ok (.aload_n 0, 1) := by decide +kernel
theorem d_FU_run_32 : decode b_FU_run 32 = .ok (.getfield 51, 3) := by decide +kernel
theorem d_FU_run_35 : decode b_FU_run 35 = .ok (.invokevirtual 149, 3) := by decide +kernel
theorem d_FU_run_38 : decode b_FU_run 38 = .ok (.ireturn, 1) := by decide +kernel
theorem d_FU_there_0 : decode b_FU_there 0 = .ok (.aload_n 0, 1) := by decide +kernel
theorem d_FU_there_1 : decode b_FU_there 1 = .ok (.getfield 12, 3) := by decide +kernel
theorem d_FU_there_4 : decode b_FU_there 4 = .ok (.iload_n 1, 1) := by decide +kernel
theorem d_FU_there_5 : decode b_FU_there 5 = .ok (.invokevirtual 86, 3) := by decide +kernel
theorem d_FU_there_8 : decode b_FU_there 8 = .ok (.ifCond .eq 23, 3) := by decide +kernel
theorem d_FU_there_11 : decode b_FU_there 11 = .ok (.iload_n 2, 1) := by decide +kernel
theorem d_FU_there_12 : decode b_FU_there 12 = .ok (.iconst 2, 1) := by decide +kernel
theorem d_FU_there_13 : decode b_FU_there 13 = .ok (.invokestatic 90, 3) := by decide +kernel
theorem d_FU_there_16 : decode b_FU_there 16 = .ok (.ifCond .eq 15, 3) := by decide +kernel
theorem d_FU_there_19 : decode b_FU_there 19 = .ok (.aload_n 0, 1) := by decide +kernel
theorem d_FU_there_20 : decode b_FU_there 20 = .ok (.getfield 51, 3) := by decide +kernel
theorem d_FU_there_23 : decode b_FU_there 23 = .ok (.iload_n 1, 1) := by decide +kernel
theorem d_FU_there_24 : decode b_FU_there 24 = .ok (.iload_n 2, 1) := by decide +kernel
theorem d_FU_there_25 : decode b_FU_there 25 = .ok (.invokevirtual 153, 3) := by decide +kernel
theorem d_FU_there_28 : decode b_FU_there 28 = .ok (.goto 4, 3) := by decide +kernel
theorem d_FU_there_31 : decode b_FU_there 31 = .ok (.iconst 0, 1) := by decide +kernel
theorem d_FU_there_32 : decode b_FU_there 32 = .ok (.ireturn, 1) := by decide +kernel
theorem d_FU_live_0 : decode b_FU_live 0 = .ok (.aload_n 0, 1) := by decide +kernel
theorem d_FU_live_1 : decode b_FU_live 1 = .ok (.getfield 26, 3) := by decide +kernel
theorem d_FU_live_4 : decode b_FU_live 4 = .ok (.iload_n 1, 1) := by decide +kernel
theorem d_FU_live_5 : decode b_FU_live 5 = .ok (.invokevirtual 120, 3) := by decide +kernel
theorem d_FU_live_8 : decode b_FU_live 8 = .ok (.ifCond .eq 23, 3) := by decide +kernel
theorem d_FU_live_11 : decode b_FU_live 11 = .ok (.iload_n 2, 1) := by decide +kernel
theorem d_FU_live_12 : decode b_FU_live 12 = .ok (.iconst 2, 1) := by decide +kernel
theorem d_FU_live_13 : decode b_FU_live 13 = .ok (.invokestatic 90, 3) := by decide +kernel
theorem d_FU_live_16 : decode b_FU_live 16 = .ok (.ifCond .eq 15, 3) := by decide +kernel
theorem d_FU_live_19 : decode b_FU_live 19 = .ok (.aload_n 0, 1) := by decide +kernel
theorem d_FU_live_20 : decode b_FU_live 20 = .ok (.getfield 51, 3) := by decide +kernel
theorem d_FU_live_23 : decode b_FU_live 23 = .ok (.iload_n 1, 1) := by decide +kernel
theorem d_FU_live_24 : decode b_FU_live 24 = .ok (.iload_n 2, 1) := by decide +kernel
theorem d_FU_live_25 : decode b_FU_live 25 = .ok (.invokevirtual 156, 3) := by decide +kernel
theorem d_FU_live_28 : decode b_FU_live 28 = .ok (.goto 4, 3) := by decide +kernel
theorem d_FU_live_31 : decode b_FU_live 31 = .ok (.iconst 0, 1) := by decide +kernel
theorem d_FU_live_32 : decode b_FU_live 32 = .ok (.ireturn, 1) := by decide +kernel
theorem d_FU_on_0 : decode b_FU_on 0 = .ok (.aload_n 0, 1) := by decide +kernel
theorem d_FU_on_1 : decode b_FU_on 1 = .ok (.getfield 19, 3) := by decide +kernel
theorem d_FU_on_4 : decode b_FU_on 4 = .ok (.iload_n 1, 1) := by decide +kernel
theorem d_FU_on_5 : decode b_FU_on 5 = .ok (.invokevirtual 127, 3) := by decide +kernel
theorem d_FU_on_8 : decode b_FU_on 8 = .ok (.ifCond .eq 23, 3) := by decide +kernel
theorem d_FU_on_11 : decode b_FU_on 11 = .ok (.iload_n 2, 1) := by decide +kernel
theorem d_FU_on_12 : decode b_FU_on 12 = .ok (.iconst 2, 1) := by decide +kernel
theorem d_FU_on_13 : decode b_FU_on 13 = .ok (.invokestatic 90, 3) := by decide +kernel
theorem d_FU_on_16 : decode b_FU_on 16 = .ok (.ifCond .eq 15, 3) := by decide +kernel
theorem d_FU_on_19 : decode b_FU_on 19 = .ok (.aload_n 0, 1) := by decide +kernel
theorem d_FU_on_20 : decode b_FU_on 20 = .ok (.getfield 51, 3) := by decide +kernel
theorem d_FU_on_23 : decode b_FU_on 23 = .ok (.iload_n 1, 1) := by decide +kernel
theorem d_FU_on_24 : decode b_FU_on 24 = .ok (.iload_n 2, 1) := by decide +kernel
theorem d_FU_on_25 : decode b_FU_on 25 = .ok (.invokevirtual 159, 3) := by decide +kernel
theorem d_FU_on_28 : decode b_FU_on 28 = .ok (.goto 4, 3) := by decide +kernel
theorem d_FU_on_31 : decode b_FU_on 31 = .ok (.iconst 0, 1) := by decide +kernel
theorem d_FU_on_32 : decode b_FU_on 32 = .ok (.ireturn, 1) := by decide +kernel
theorem d_Reas_isByRoot_0 : decode b_Reas_isByRoot 0 = .ok (.aload_n 0, 1) := by decide +kernel
theorem d_Reas_isByRoot_1 : decode b_Reas_isByRoot 1 = .ok (.getfield 9, 3) := by decide +kernel
theorem d_Reas_isByRoot_4 : decode b_Reas_isByRoot 4 = .ok (.getfield 36, 3) := by decide +kernel
theorem d_Reas_isByRoot_7 : decode b_Reas_isByRoot 7 = .ok (.getfield 42, 3) := by decide +kernel
theorem d_Reas_isByRoot_10 : decode b_Reas_isByRoot 10 = .ok (.iload_n 2, 1) := by decide +kernel
theorem d_Reas_isByRoot_11 : decode b_Reas_isByRoot 11 = .ok (.iaload, 1) := by decide +kernel
theorem d_Reas_isByRoot_12 : decode b_Reas_isByRoot 12 = .ok (.iload_n 1, 1) := by decide +kernel
theorem d_Reas_isByRoot_13 : decode b_Reas_isByRoot 13 = .ok (.if_icmp .ne 34, 3) := by decide +kernel
theorem d_Reas_isByRoot_16 : decode b_Reas_isByRoot 16 = .ok (.iload_n 3, 1) := by decide +kernel
theorem d_Reas_isByRoot_17 : decode b_Reas_isByRoot 17 = .ok (.ifCond .ne 30, 3) := by decide +kernel
theorem d_Reas_isByRoot_20 : decode b_Reas_isByRoot 20 = .ok (.aload_n 0, 1) := by decide +kernel
theorem d_Reas_isByRoot_21 : decode b_Reas_isByRoot 21 = .ok (.getfield 9, 3) := by decide +kernel
theorem d_Reas_isByRoot_24 : decode b_Reas_isByRoot 24 = .ok (.iload_n 2, 1) := by decide +kernel
theorem d_Reas_isByRoot_25 : decode b_Reas_isByRoot 25 = .ok (.invokevirtual 48, 3) := by decide +kernel
theorem d_Reas_isByRoot_28 : decode b_Reas_isByRoot 28 = .ok (.ifCond .eq 19, 3) := by decide +kernel
theorem d_Reas_isByRoot_31 : decode b_Reas_isByRoot 31 = .ok (.aload_n 0, 1) := by decide +kernel
theorem d_Reas_isByRoot_32 : decode b_Reas_isByRoot 32 = .ok (.getfield 15, 3) := by decide +kernel
theorem d_Reas_isByRoot_35 : decode b_Reas_isByRoot 35 = .ok (.iload_n 1, 1) := by decide +kernel
theorem d_Reas_isByRoot_36 : decode b_Reas_isByRoot 36 = .ok (.iconst 0, 1) := by decide +kernel
theorem d_Reas_isByRoot_37 : decode b_Reas_isByRoot 37 = .ok (.invokevirtual 52, 3) := by decide +kernel
theorem d_Reas_isByRoot_40 : decode b_Reas_isByRoot 40 = .ok (.ifCond .eq 7, 3) := by decide +kernel
theorem d_Reas_isByRoot_43 : decode b_Reas_isByRoot 43 = .ok (.iconst 1, 1) := by decide +kernel
theorem d_Reas_isByRoot_44 : decode b_Reas_isByRoot 44 = .ok (.goto 4, 3) := by decide +kernel
theorem d_Reas_isByRoot_47 : decode b_Reas_isByRoot 47 = .ok (.iconst 0, 1) := by decide +kernel
theorem d_Reas_isByRoot_48 : decode b_Reas_isByRoot 48 = .ok (.ireturn, 1) := by decide +kernel
theorem d_Reas_isByUser_0 : decode b_Reas_isByUser 0 = .ok (.iload_n 2, 1) := by decide +kernel
theorem d_Reas_isByUser_1 : decode b_Reas_isByUser 1 = .ok (.iconst 2, 1) := by decide +kernel
theorem d_Reas_isByUser_2 : decode b_Reas_isByUser 2 = .ok (.idiv, 1) := by decide +kernel
theorem d_Reas_isByUser_3 : decode b_Reas_isByUser 3 = .ok (.istore 5, 2) := by decide +kernel
theorem d_Reas_isByUser_5 : decode b_Reas_isByUser 5 = .ok (.iload_n 2, 1) := by decide +kernel
theorem d_Reas_isByUser_6 : decode b_Reas_isByUser 6 = .ok (.iconst 2, 1) := by decide +kernel
theorem d_Reas_isByUser_7 : decode b_Reas_isByUser 7 = .ok (.irem, 1) := by decide +kernel
theorem d_Reas_isByUser_8 : decode b_Reas_isByUser 8 = .ok (.istore 6, 2) := by decide +kernel
theorem d_Reas_isByUser_10 : decode b_Reas_isByUser 10 = .ok (.iload 5, 2) := by decide +kernel
theorem d_Reas_isByUser_12 : decode b_Reas_isByUser 12 = .ok (.aload_n 0, 1) := by decide +kernel
theorem d_Reas_isByUser_13 : decode b_Reas_isByUser 13 = .ok (.getfield 9, 3) := by decide +kernel
theorem d_Reas_isByUser_16 : decode b_Reas_isByUser 16 = .ok (.getfield 58, 3) := by decide +kernel
theorem d_Reas_isByUser_19 : decode b_Reas_isByUser 19 = .ok (.if_icmp .ge 36, 3) := by decide +kernel
theorem d_Reas_isByUser_22 : decode b_Reas_isByUser 22 = .ok (.aload_n 0, 1) := by decide +kernel
theorem d_Reas_isByUser_23 : decode b_Reas_isByUser 23 = .ok (.getfield 15, 3) := by decide +kernel
theorem d_Reas_isByUser_26 : decode b_Reas_isByUser 26 = .ok (.iload 5, 2) := by decide +kernel
theorem d_Reas_isByUser_28 : decode b_Reas_isByUser 28 = .ok (.iload 6, 2) := by decide +kernel
theorem d_Reas_isByUser_30 : decode b_Reas_isByUser 30 = .ok (.invokevirtual 62, 3) := by decide +kernel
theorem d_Reas_isByUser_33 : decode b_Reas_isByUser 33 = .ok (.ifCond .eq 22, 3) := by decide +kernel
theorem d_Reas_isByUser_36 : decode b_Reas_isByUser 36 = .ok (.aload_n 0, 1) := by decide +kernel
theorem d_Reas_isByUser_37 : decode b_Reas_isByUser 37 = .ok (.getfield 9, 3) := by decide +kernel
theorem d_Reas_isByUser_40 : decode b_Reas_isByUser 40 = .ok (.getfield 65, 3) := by decide +kernel
theorem d_Reas_isByUser_43 : decode b_Reas_isByUser 43 = .ok (.iload 5, 2) := by decide +kernel
theorem d_Reas_isByUser_45 : decode b_Reas_isByUser 45 = .ok (.iload 6, 2) := by decide +kernel
theorem d_Reas_isByUser_47 : decode b_Reas_isByUser 47 = .ok (.invokevirtual 69, 3) := by decide +kernel
theorem d_Reas_isByUser_50 : decode b_Reas_isByUser 50 = .ok (.iload 4, 2) := by decide +kernel
theorem d_Reas_isByUser_52 : decode b_Reas_isByUser 52 = .ok (.if_icmp .eq 5, 3) := by decide +kernel
theorem d_Reas_isByUser_55 : decode b_Reas_isByUser 55 = .ok (.iconst 0, 1) := by decide +kernel
theorem d_Reas_isByUser_56 : decode b_Reas_isByUser 56 = .ok (.ireturn, 1) := by decide +kernel
theorem d_Reas_isByUser_57 : decode b_Reas_isByUser 57 = .ok (.iload_n 1, 1) := by decide +kernel
theorem d_Reas_isByUser_58 : decode b_Reas_isByUser 58 = .ok (.iconst 1, 1) := by decide +kernel
theorem d_Reas_isByUser_59 : decode b_Reas_isByUser 59 = .ok (.if_icmp .ne 16, 3) := by decide +kernel
theorem d_Reas_isByUser_62 : decode b_Reas_isByUser 62 = .ok (.aload_n 0, 1) := by decide +kernel
theorem d_Reas_isByUser_63 : decode b_Reas_isByUser 63 = .ok (.getfield 9, 3) := by decide +kernel
theorem d_Reas_isByUser_66 : decode b_Reas_isByUser 66 = .ok (.iload 5, 2) := by decide +kernel
theorem d_Reas_isByUser_68 : decode b_Reas_isByUser 68 = .ok (.iload_n 3, 1) := by decide +kernel
theorem d_Reas_isByUser_69 : decode b_Reas_isByUser 69 = .ok (.invokevirtual 74, 3) := by decide +kernel
theorem d_Reas_isByUser_72 : decode b_Reas_isByUser 72 = .ok (.goto 13, 3) := by decide +kernel
theorem d_Reas_isByUser_75 : decode b_Reas_isByUser 75 = .ok (.aload_n 0, 1) := by decide +kernel
theorem d_Reas_isByUser_76 : decode b_Reas_isByUser 76 = .ok (.getfield 9, 3) := by decide +kernel
theorem d_Reas_isByUser_79 : decode b_Reas_isByUser 79 = .ok (.iload 5, 2) := by decide +kernel
theorem d_Reas_isByUser_81 : decode b_Reas_isByUser 81 = .ok (.iload_n 3, 1) := by decide +kernel
theorem d_Reas_isByUser_82 : decode b_Reas_isByUser 82 = .ok (.invokevirtual 78, 3) := by decide +kernel
theorem d_Reas_isByUser_85 : decode b_Reas_isByUser 85 = .ok (.ireturn, 1) := by decide +kernel
theorem d_Reas_isByTurn_0 : decode b_Reas_isByTurn 0 = .ok (.iload_n 2, 1) := by decide +kernel
theorem d_Reas_isByTurn_1 : decode b_Reas_isByTurn 1 = .ok (.iconst 2, 1) := by decide +kernel
theorem d_Reas_isByTurn_2 : decode b_Reas_isByTurn 2 = .ok (.idiv, 1) := by decide +kernel
theorem d_Reas_isByTurn_3 : decode b_Reas_isByTurn 3 = .ok (.istore 5, 2) := by decide +kernel
theorem d_Reas_isByTurn_5 : decode b_Reas_isByTurn 5 = .ok (.iload_n 2, 1) := by decide +kernel
theorem d_Reas_isByTurn_6 : decode b_Reas_isByTurn 6 = .ok (.iconst 2, 1) := by decide +kernel
theorem d_Reas_isByTurn_7 : decode b_Reas_isByTurn 7 = .ok (.irem, 1) := by decide +kernel
theorem d_Reas_isByTurn_8 : decode b_Reas_isByTurn 8 = .ok (.istore 6, 2) := by decide +kernel
theorem d_Reas_isByTurn_10 : decode b_Reas_isByTurn 10 = .ok (.iload 5, 2) := by decide +kernel
theorem d_Reas_isByTurn_12 : decode b_Reas_isByTurn 12 = .ok (.aload_n 0, 1) := by decide +kernel
theorem d_Reas_isByTurn_13 : decode b_Reas_isByTurn 13 = .ok (.getfield 9, 3) := by decide +kernel
theorem d_Reas_isByTurn_16 : decode b_Reas_isByTurn 16 = .ok (.getfield 81, 3) := by decide +kernel
theorem d_Reas_isByTurn_19 : decode b_Reas_isByTurn 19 = .ok (.if_icmp .ge 45, 3) := by decide +kernel
theorem d_Reas_isByTurn_22 : decode b_Reas_isByTurn 22 = .ok (.aload_n 0, 1) := by decide +kernel
theorem d_Reas_isByTurn_23 : decode b_Reas_isByTurn 23 = .ok (.getfield 9, 3) := by decide +kernel
theorem d_Reas_isByTurn_26 : decode b_Reas_isByTurn 26 = .ok (.getfield 84, 3) := by decide +kernel
theorem d_Reas_isByTurn_29 : decode b_Reas_isByTurn 29 = .ok (.getfield 88, 3) := by decide +kernel
theorem d_Reas_isByTurn_32 : decode b_Reas_isByTurn 32 = .ok (.iload 5, 2) := by decide +kernel
theorem d_Reas_isByTurn_34 : decode b_Reas_isByTurn 34 = .ok (.iaload, 1) := by decide +kernel
theorem d_Reas_isByTurn_35 : decode b_Reas_isByTurn 35 = .ok (.iload_n 3, 1) := by decide +kernel
theorem d_Reas_isByTurn_36 : decode b_Reas_isByTurn 36 = .ok (.if_icmp .ne 28, 3) := by decide +kernel
theorem d_Reas_isByTurn_39 : decode b_Reas_isByTurn 39 = .ok (.aload_n 0, 1) := by decide +kernel
theorem d_Reas_isByTurn_40 : decode b_Reas_isByTurn 40 = .ok (.getfield 15, 3) := by decide +kernel
theorem d_Reas_isByTurn_43 : decode b_Reas_isByTurn 43 = .ok (.aload_n 0, 1) := by decide +kernel
theorem d_Reas_isByTurn_44 : decode b_Reas_isByTurn 44 = .ok (.getfield 9, 3) := by decide +kernel
theorem d_Reas_isByTurn_47 : decode b_Reas_isByTurn 47 = .ok (.getfield 84, 3) := by decide +kernel
theorem d_Reas_isByTurn_50 : decode b_Reas_isByTurn 50 = .ok (.getfield 93, 3) := by decide +kernel
theorem d_Reas_isByTurn_53 : decode b_Reas_isByTurn 53 = .ok (.iload 5, 2) := by decide +kernel
theorem d_Reas_isByTurn_55 : decode b_Reas_isByTurn 55 = .ok (.iaload, 1) := by decide +kernel
theorem d_Reas_isByTurn_56 : decode b_Reas_isByTurn 56 = .ok (.iload 6, 2) := by decide +kernel
theorem d_Reas_isByTurn_58 : decode b_Reas_isByTurn 58 = .ok (.invokevirtual 96, 3) := by decide +kernel
theorem d_Reas_isByTurn_61 : decode b_Reas_isByTurn 61 = .ok (.ifCond .ne 5, 3) := by decide +kernel
theorem d_Reas_isByTurn_64 : decode b_Reas_isByTurn 64 = .ok (.iconst 0, 1) := by decide +kernel
theorem d_Reas_isByTurn_65 : decode b_Reas_isByTurn 65 = .ok (.ireturn, 1) := by decide +kernel
theorem d_Reas_isByTurn_66 : decode b_Reas_isByTurn 66 = .ok (.aload_n 0, 1) := by decide +kernel
theorem d_Reas_isByTurn_67 : decode b_Reas_isByTurn 67 = .ok (.getfield 9, 3) := by decide +kernel
theorem d_Reas_isByTurn_70 : decode b_Reas_isByTurn 70 = .ok (.getfield 84, 3) := by decide +kernel
theorem d_Reas_isByTurn_73 : decode b_Reas_isByTurn 73 = .ok (.getfield 99, 3) := by decide +kernel
theorem d_Reas_isByTurn_76 : decode b_Reas_isByTurn 76 = .ok (.iload 5, 2) := by decide +kernel
theorem d_Reas_isByTurn_78 : decode b_Reas_isByTurn 78 = .ok (.iaload, 1) := by decide +kernel
theorem d_Reas_isByTurn_79 : decode b_Reas_isByTurn 79 = .ok (.istore 7, 2) := by decide +kernel
theorem d_Reas_isByTurn_81 : decode b_Reas_isByTurn 81 = .ok (.iload_n 1, 1) := by decide +kernel
theorem d_Reas_isByTurn_82 : decode b_Reas_isByTurn 82 = .ok (.iconst 3, 1) := by decide +kernel
theorem d_Reas_isByTurn_83 : decode b_Reas_isByTurn 83 = .ok (.if_icmp .ne 21, 3) := by decide +kernel
theorem d_Reas_isByTurn_86 : decode b_Reas_isByTurn 86 = .ok (.iload 7, 2) := by decide +kernel
theorem d_Reas_isByTurn_88 : decode b_Reas_isByTurn 88 = .ok (.ifCond .ne 14, 3) := by decide +kernel
theorem d_Reas_isByTurn_91 : decode b_Reas_isByTurn 91 = .ok (.iload 6, 2) := by decide +kernel
theorem d_Reas_isByTurn_93 : decode b_Reas_isByTurn 93 = .ok (.iload 4, 2) := by decide +kernel
theorem d_Reas_isByTurn_95 : decode b_Reas_isByTurn 95 = .ok (.if_icmp .ne 7, 3) := by decide +kernel
theorem d_Reas_isByTurn_98 : decode b_Reas_isByTurn 98 = .ok (.iconst 1, 1) := by decide +kernel
theorem d_Reas_isByTurn_99 : decode b_Reas_isByTurn 99 = .ok (.goto 4, 3) := by decide +kernel
theorem d_Reas_isByTurn_102 : decode b_Reas_isByTurn 102 = .ok (.iconst 0, 1) := by decide +kernel
theorem d_Reas_isByTurn_103 : decode b_Reas_isByTurn 103 = .ok (.ireturn, 1) := by decide +kernel
theorem d_Reas_isByTurn_104 : decode b_Reas_isByTurn 104 = .ok (.aload_n 0, 1) := by decide +kernel
theorem d_Reas_isByTurn_105 : decode b_Reas_isByTurn 105 = .ok (.getfield 9, 3) := by decide +kernel
theorem d_Reas_isByTurn_108 : decode b_Reas_isByTurn 108 = .ok (.getfield 84, 3) := by decide +kernel
theorem d_Reas_isByTurn_111 : decode b_Reas_isByTurn 111 = .ok (.getfield 102, 3) := by decide +kernel
theorem d_Reas_isByTurn_114 : decode b_Reas_isByTurn 114 = .ok (.iload 5, 2) := by decide +kernel
theorem d_Reas_isByTurn_116 : decode b_Reas_isByTurn 116 = .ok (.iaload, 1) := by decide +kernel
theorem d_Reas_isByTurn_117 : decode b_Reas_isByTurn 117 = .ok (.istore 8, 2) := by decide +kernel
theorem d_Reas_isByTurn_119 : decode b_Reas_isByTurn 119 = .ok (.iload 8, 2) := by decide +kernel
theorem d_Reas_isByTurn_121 : decode b_Reas_isByTurn 121 = .ok (.iconst (-1), 1) := by decide +kernel
theorem d_Reas_isByTurn_122 : decode b_Reas_isByTurn 122 = .ok (.if_icmp .eq 34, 3) := by decide +kernel
theorem d_Reas_isByTurn_125 : decode b_Reas_isByTurn 125 = .ok (.aload_n 0, 1) := by decide +kernel
theorem d_Reas_isByTurn_126 : decode b_Reas_isByTurn 126 = .ok (.getfield 9, 3) := by decide +kernel
theorem d_Reas_isByTurn_129 : decode b_Reas_isByTurn 129 = .ok (.iload 8, 2) := by decide +kernel
theorem d_Reas_isByTurn_131 : decode b_Reas_isByTurn 131 = .ok (.invokevirtual 105, 3) := by decide +kernel
theorem d_Reas_isByTurn_134 : decode b_Reas_isByTurn 134 = .ok (.ifCond .eq 22, 3) := by decide +kernel
theorem d_Reas_isByTurn_137 : decode b_Reas_isByTurn 137 = .ok (.aload_n 0, 1) := by decide +kernel
theorem d_Reas_isByTurn_138 : decode b_Reas_isByTurn 138 = .ok (.getfield 9, 3) := by decide +kernel
theorem d_Reas_isByTurn_141 : decode b_Reas_isByTurn 141 = .ok (.getfield 65, 3) := by decide +kernel
theorem d_Reas_isByTurn_144 : decode b_Reas_isByTurn 144 = .ok (.iload 8, 2) := by decide +kernel
theorem d_Reas_isByTurn_146 : decode b_Reas_isByTurn 146 = .ok (.iload 6, 2) := by decide +kernel
theorem d_Reas_isByTurn_148 : decode b_Reas_isByTurn 148 = .ok (.invokevirtual 69, 3) := by decide +kernel
theorem d_Reas_isByTurn_151 : decode b_Reas_isByTurn 151 = .ok (.iload 4, 2) := by decide +kernel
theorem d_Reas_isByTurn_153 : decode b_Reas_isByTurn 153 = .ok (.if_icmp .eq 5, 3) := by decide +kernel
theorem d_Reas_isByTurn_156 : decode b_Reas_isByTurn 156 = .ok (.iconst 0, 1) := by decide +kernel
theorem d_Reas_isByTurn_157 : decode b_Reas_isByTurn 157 = .ok (.ireturn, 1) := by decide +kernel
theorem d_Reas_isByTurn_158 : decode b_Reas_isByTurn 158 = .ok (.iload_n 1, 1) := by decide +kernel
theorem d_Reas_isByTurn_159 : decode b_Reas_isByTurn 159 = .ok (.iconst 4, 1) := by decide +kernel
theorem d_Reas_isByTurn_160 : decode b_Reas_isByTurn 160 = .ok (.if_icmp .ne 17, 3) := by decide +kernel
theorem d_Reas_isByTurn_163 : decode b_Reas_isByTurn 163 = .ok (.iload 7, 2) := by decide +kernel
theorem d_Reas_isByTurn_165 : decode b_Reas_isByTurn 165 = .ok (.iconst 2, 1) := by decide +kernel
theorem d_Reas_isByTurn_166 : decode b_Reas_isByTurn 166 = .ok (.if_icmp .ne 7, 3) := by decide +kernel
theorem d_Reas_isByTurn_169 : decode b_Reas_isByTurn 169 = .ok (.iconst 1, 1) := by decide +kernel
theorem d_Reas_isByTurn_170 : decode b_Reas_isByTurn 170 = .ok (.goto 32, 3) := by decide +kernel
theorem d_Reas_isByTurn_173 : decode b_Reas_isByTurn 173 = .ok (.iconst 0, 1) := by decide +kernel
theorem d_Reas_isByTurn_174 : decode b_Reas_isByTurn 174 = .ok (.goto 28, 3) := by decide +kernel
theorem d_Reas_isByTurn_177 : decode b_Reas_isByTurn 177 = .ok (.iload 7, 2) := by decide +kernel
theorem d_Reas_isByTurn_179 : decode b_Reas_isByTurn 179 = .ok (.iconst 3, 1) := by decide +kernel
theorem d_Reas_isByTurn_180 : decode b_Reas_isByTurn 180 = .ok (.if_icmp .ne 21, 3) := by decide +kernel
theorem d_Reas_isByTurn_183 : decode b_Reas_isByTurn 183 = .ok (.aload_n 0, 1) := by decide +kernel
theorem d_Reas_isByTurn_184 : decode b_Reas_isByTurn 184 = .ok (.getfield 15, 3) := by decide +kernel
theorem d_Reas_isByTurn_187 : decode b_Reas_isByTurn 187 = .ok (.iload 8, 2) := by decide +kernel
theorem d_Reas_isByTurn_189 : decode b_Reas_isByTurn 189 = .ok (.iload 6, 2) := by decide +kernel
theorem d_Reas_isByTurn_191 : decode b_Reas_isByTurn 191 = .ok (.invokevirtual 62, 3) := by decide +kernel
theorem d_Reas_isByTurn_194 : decode b_Reas_isByTurn 194 = .ok (.ifCond .eq 7, 3) := by decide +kernel
theorem d_Reas_isByTurn_197 : decode b_Reas_isByTurn 197 = .ok (.iconst 1, 1) := by decide +kernel
theorem d_Reas_isByTurn_198 : decode b_Reas_isByTurn 198 = .ok (.goto 4, 3) := by decide +kernel
theorem d_Reas_isByTurn_201 : decode b_Reas_isByTurn 201 = .ok (.iconst 0, 1) := by decide +kernel
theorem d_Reas_isByTurn_202 : decode b_Reas_isByTurn 202 = .ok (.ireturn, 1) := by decide +kernel
theorem d_Reas_isByOtherSide_0 : decode b_Reas_isByOtherSide 0 = .ok (.aload_n 0, 1) := by decide +kernel
theorem d_Reas_isByOtherSide_1 : decode b_Reas_isByOtherSide 1 = .ok (.getfield 9, 3) := by decide +kernel
theorem d_Reas_isByOtherSide_4 : decode b_Reas_isByOtherSide 4 = .ok (.getfield 36, 3) := by decide +kernel
theorem d_Reas_isByOtherSide_7 : decode b_Reas_isByOtherSide 7 = .ok (.getfield 42, 3) := by decide +kernel
theorem d_Reas_isByOtherSide_10 : decode b_Reas_isByOtherSide 10 = .ok (.iload_n 2, 1) := by decide +kernel
theorem d_Reas_isByOtherSide_11 : decode b_Reas_isByOtherSide 11 = .ok (.iaload, 1) := by decide +kernel
theorem d_Reas_isByOtherSide_12 : decode b_Reas_isByOtherSide 12 = .ok (.istore 4, 2) := by decide +kernel
theorem d_Reas_isByOtherSide_14 : decode b_Reas_isByOtherSide 14 = .ok (.iload_n 1, 1) := by decide +kernel
theorem d_Reas_isByOtherSide_15 : decode b_Reas_isByOtherSide 15 = .ok (.iconst 2, 1) := by decide +kernel
theorem d_Reas_isByOtherSide_16 : decode b_Reas_isByOtherSide 16 = .ok (.iload_n 2, 1) := by decide +kernel
theorem d_Reas_isByOtherSide_17 : decode b_Reas_isByOtherSide 17 = .ok (.imul, 1) := by decide +kernel
theorem d_Reas_isByOtherSide_18 : decode b_Reas_isByOtherSide 18 = .ok (.iconst 1, 1) := by decide +kernel
theorem d_Reas_isByOtherSide_19 : decode b_Reas_isByOtherSide 19 = .ok (.iadd, 1) := by decide +kernel
theorem d_Reas_isByOtherSide_20 : decode b_Reas_isByOtherSide 20 = .ok (.iload_n 3, 1) := by decide +kernel
theorem d_Reas_isByOtherSide_21 : decode b_Reas_isByOtherSide 21 = .ok (.isub, 1) := by decide +kernel
theorem d_Reas_isByOtherSide_22 : decode b_Reas_isByOtherSide 22 = .ok (.if_icmp .ne 50, 3) := by decide +kernel
theorem d_Reas_isByOtherSide_25 : decode b_Reas_isByOtherSide 25 = .ok (.aload_n 0, 1) := by decide +kernel
theorem d_Reas_isByOtherSide_26 : decode b_Reas_isByOtherSide 26 = .ok (.getfield 9, 3) := by decide +kernel
theorem d_Reas_isByOtherSide_29 : decode b_Reas_isByOtherSide 29 = .ok (.getfield 108, 3) := by decide +kernel
theorem d_Reas_isByOtherSide_32 : decode b_Reas_isByOtherSide 32 = .ok (.getfield 112, 3) := by decide +kernel
theorem d_Reas_isByOtherSide_35 : decode b_Reas_isByOtherSide 35 = .ok (.iload 4, 2) := by decide +kernel
theorem d_Reas_isByOtherSide_37 : decode b_Reas_isByOtherSide 37 = .ok (.baload, 1) := by decide +kernel
theorem d_Reas_isByOtherSide_38 : decode b_Reas_isByOtherSide 38 = .ok (.ifCond .ne 34, 3) := by decide +kernel
theorem d_Reas_isByOtherSide_41 : decode b_Reas_isByOtherSide 41 = .ok (.aload_n 0, 1) := by decide +kernel
theorem d_Reas_isByOtherSide_42 : decode b_Reas_isByOtherSide 42 = .ok (.getfield 15, 3) := by decide +kernel
theorem d_Reas_isByOtherSide_45 : decode b_Reas_isByOtherSide 45 = .ok (.iload_n 2, 1) := by decide +kernel
theorem d_Reas_isByOtherSide_46 : decode b_Reas_isByOtherSide 46 = .ok (.iconst 1, 1) := by decide +kernel
theorem d_Reas_isByOtherSide_47 : decode b_Reas_isByOtherSide 47 = .ok (.iload_n 3, 1) := by decide +kernel
theorem d_Reas_isByOtherSide_48 : decode b_Reas_isByOtherSide 48 = .ok (.isub, 1) := by decide +kernel
theorem d_Reas_isByOtherSide_49 : decode b_Reas_isByOtherSide 49 = .ok (.invokevirtual 96, 3) := by decide +kernel
theorem d_Reas_isByOtherSide_52 : decode b_Reas_isByOtherSide 52 = .ok (.ifCond .eq 20, 3) := by decide +kernel
theorem d_Reas_isByOtherSide_55 : decode b_Reas_isByOtherSide 55 = .ok (.aload_n 0, 1) := by decide +kernel
theorem d_Reas_isByOtherSide_56 : decode b_Reas_isByOtherSide 56 = .ok (.getfield 15, 3) := by decide +kernel
theorem d_Reas_isByOtherSide_59 : decode b_Reas_isByOtherSide 59 = .ok (.iload 4, 2) := by decide +kernel
theorem d_Reas_isByOtherSide_61 : decode b_Reas_isByOtherSide 61 = .ok (.iload_n 3, 1) := by decide +kernel
theorem d_Reas_isByOtherSide_62 : decode b_Reas_isByOtherSide 62 = .ok (.invokevirtual 52, 3) := by decide +kernel
theorem d_Reas_isByOtherSide_65 : decode b_Reas_isByOtherSide 65 = .ok (.ifCond .eq 7, 3) := by decide +kernel
theorem d_Reas_isByOtherSide_68 : decode b_Reas_isByOtherSide 68 = .ok (.iconst 1, 1) := by decide +kernel
theorem d_Reas_isByOtherSide_69 : decode b_Reas_isByOtherSide 69 = .ok (.goto 4, 3) := by decide +kernel
theorem d_Reas_isByOtherSide_72 : decode b_Reas_isByOtherSide 72 = .ok (.iconst 0, 1) := by decide +kernel
theorem d_Reas_isByOtherSide_73 : decode b_Reas_isByOtherSide 73 = .ok (.ireturn, 1) := by decide +kernel
theorem d_Reas_holds_0 : decode b_Reas_holds 0 = .ok (.iload_n 1, 1) := by decide +kernel
theorem d_Reas_holds_1 : decode b_Reas_holds 1 = .ok (.sipush 128, 3) := by decide +kernel
theorem d_Reas_holds_4 : decode b_Reas_holds 4 = .ok (.idiv, 1) := by decide +kernel
theorem d_Reas_holds_5 : decode b_Reas_holds 5 = .ok (.istore 4, 2) := by decide +kernel
theorem d_Reas_holds_7 : decode b_Reas_holds 7 = .ok (.iload_n 1, 1) := by decide +kernel
theorem d_Reas_holds_8 : decode b_Reas_holds 8 = .ok (.sipush 128, 3) := by decide +kernel
theorem d_Reas_holds_11 : decode b_Reas_holds 11 = .ok (.irem, 1) := by decide +kernel
theorem d_Reas_holds_12 : decode b_Reas_holds 12 = .ok (.istore 5, 2) := by decide +kernel
theorem d_Reas_holds_14 : decode b_Reas_holds 14 = .ok (.iload 4, 2) := by decide +kernel
theorem d_Reas_holds_16 : decode b_Reas_holds 16 = .ok (.tableswitch 84 0 6 #[44, 53, 53, 64, 64, 64, 75], 44) := by decide +kernel
theorem d_Reas_holds_60 : decode b_Reas_holds 60 = .ok (.aload_n 0, 1) := by decide +kernel
theorem d_Reas_holds_61 : decode b_Reas_holds 61 = .ok (.iload 5, 2) := by decide +kernel
theorem d_Reas_holds_63 : decode b_Reas_holds 63 = .ok (.iload_n 2, 1) := by decide +kernel
theorem d_Reas_holds_64 : decode b_Reas_holds 64 = .ok (.iload_n 3, 1) := by decide +kernel
theorem d_Reas_holds_65 : decode b_Reas_holds 65 = .ok (.invokevirtual 23, 3) := by decide +kernel
theorem d_Reas_holds_68 : decode b_Reas_holds 68 = .ok (.ireturn, 1) := by decide +kernel
theorem d_Reas_holds_69 : decode b_Reas_holds 69 = .ok (.aload_n 0, 1) := by decide +kernel
theorem d_Reas_holds_70 : decode b_Reas_holds 70 = .ok (.iload 4, 2) := by decide +kernel
theorem d_Reas_holds_72 : decode b_Reas_holds 72 = .ok (.iload 5, 2) := by decide +kernel
theorem d_Reas_holds_74 : decode b_Reas_holds 74 = .ok (.iload_n 2, 1) := by decide +kernel
theorem d_Reas_holds_75 : decode b_Reas_holds 75 = .ok (.iload_n 3, 1) := by decide +kernel
theorem d_Reas_holds_76 : decode b_Reas_holds 76 = .ok (.invokevirtual 26, 3) := by decide +kernel
theorem d_Reas_holds_79 : decode b_Reas_holds 79 = .ok (.ireturn, 1) := by decide +kernel
theorem d_Reas_holds_80 : decode b_Reas_holds 80 = .ok (.aload_n 0, 1) := by decide +kernel
theorem d_Reas_holds_81 : decode b_Reas_holds 81 = .ok (.iload 4, 2) := by decide +kernel
theorem d_Reas_holds_83 : decode b_Reas_holds 83 = .ok (.iload 5, 2) := by decide +kernel
theorem d_Reas_holds_85 : decode b_Reas_holds 85 = .ok (.iload_n 2, 1) := by decide +kernel
theorem d_Reas_holds_86 : decode b_Reas_holds 86 = .ok (.iload_n 3, 1) := by decide +kernel
theorem d_Reas_holds_87 : decode b_Reas_holds 87 = .ok (.invokevirtual 30, 3) := by decide +kernel
theorem d_Reas_holds_90 : decode b_Reas_holds 90 = .ok (.ireturn, 1) := by decide +kernel
theorem d_Reas_holds_91 : decode b_Reas_holds 91 = .ok (.aload_n 0, 1) := by decide +kernel
theorem d_Reas_holds_92 : decode b_Reas_holds 92 = .ok (.iload 5, 2) := by decide +kernel
theorem d_Reas_holds_94 : decode b_Reas_holds 94 = .ok (.iload_n 2, 1) := by decide +kernel
theorem d_Reas_holds_95 : decode b_Reas_holds 95 = .ok (.iload_n 3, 1) := by decide +kernel
theorem d_Reas_holds_96 : decode b_Reas_holds 96 = .ok (.invokevirtual 33, 3) := by decide +kernel
theorem d_Reas_holds_99 : decode b_Reas_holds 99 = .ok (.ireturn, 1) := by decide +kernel
theorem d_Reas_holds_100 : decode b_Reas_holds 100 = .ok (.iconst 0, 1) := by decide +kernel
theorem d_Reas_holds_101 : decode b_Reas_holds 101 = .ok (.ireturn, 1) := by decide +kernel
theorem d_Reas_countOf_0 : decode b_Reas_countOf 0 = .ok (.iconst 0, 1) := by decide +kernel
theorem d_Reas_countOf_1 : decode b_Reas_countOf 1 = .ok (.istore_n 3, 1) := by decide +kernel
theorem d_Reas_countOf_2 : decode b_Reas_countOf 2 = .ok (.iconst 0, 1) := by decide +kernel
theorem d_Reas_countOf_3 : decode b_Reas_countOf 3 = .ok (.istore 4, 2) := by decide +kernel
theorem d_Reas_countOf_5 : decode b_Reas_countOf 5 = .ok (.iload 4, 2) := by decide +kernel
theorem d_Reas_countOf_7 : decode b_Reas_countOf 7 = .ok (.sipush 896, 3) := by decide +kernel
theorem d_Reas_countOf_10 : decode b_Reas_countOf 10 = .ok (.if_icmp .ge 23, 3) := by decide +kernel
theorem d_Reas_countOf_13 : decode b_Reas_countOf 13 = .ok (.aload_n 0, 1) := by decide +kernel
theorem d_Reas_countOf_14 : decode b_Reas_countOf 14 = .ok (.iload 4, 2) := by decide +kernel
theorem d_Reas_countOf_16 : decode b_Reas_countOf 16 = .ok (.iload_n 1, 1) := by decide +kernel
theorem d_Reas_countOf_17 : decode b_Reas_countOf 17 = .ok (.iload_n 2, 1) := by decide +kernel
theorem d_Reas_countOf_18 : decode b_Reas_countOf 18 = .ok (.invokevirtual 19, 3) := by decide +kernel
theorem d_Reas_countOf_21 : decode b_Reas_countOf 21 = .ok (.ifCond .eq 6, 3) := by decide +kernel
theorem d_Reas_countOf_24 : decode b_Reas_countOf 24 = .ok (.iinc 3 1, 3) := by decide +kernel
theorem d_Reas_countOf_27 : decode b_Reas_countOf 27 = .ok (.iinc 4 1, 3) := by decide +kernel
theorem d_Reas_countOf_30 : decode b_Reas_countOf 30 = .ok (.goto (-25), 3) := by decide +kernel
theorem d_Reas_countOf_33 : decode b_Reas_countOf 33 = .ok (.iload_n 3, 1) := by decide +kernel
theorem d_Reas_countOf_34 : decode b_Reas_countOf 34 = .ok (.ireturn, 1) := by decide +kernel
theorem d_FU_reasons_0 : decode b_FU_reasons 0 = .ok (.aload_n 0, 1) := by decide +kernel
theorem d_FU_reasons_1 : decode b_FU_reasons 1 = .ok (.iload_n 1, 1) := by decide +kernel
theorem d_FU_reasons_2 : decode b_FU_reasons 2 = .ok (.iload_n 2, 1) := by decide +kernel
theorem d_FU_reasons_3 : decode b_FU_reasons 3 = .ok (.invokevirtual 162, 3) := by decide +kernel
theorem d_FU_reasons_6 : decode b_FU_reasons 6 = .ok (.ifCond .ne 7, 3) := by decide +kernel
theorem d_FU_reasons_9 : decode b_FU_reasons 9 = .ok (.iconst 0, 1) := by decide +kernel
theorem d_FU_reasons_10 : decode b_FU_reasons 10 = .ok (.goto 12, 3) := by decide +kernel
theorem d_FU_reasons_13 : decode b_FU_reasons 13 = .ok (.aload_n 0, 1) := by decide +kernel
theorem d_FU_reasons_14 : decode b_FU_reasons 14 = .ok (.getfield 63, 3) := by decide +kernel
theorem d_FU_reasons_17 : decode b_FU_reasons 17 = .ok (.iload_n 1, 1) := by decide +kernel
theorem d_FU_reasons_18 : decode b_FU_reasons 18 = .ok (.iload_n 2, 1) := by decide +kernel
theorem d_FU_reasons_19 : decode b_FU_reasons 19 = .ok (.invokevirtual 165, 3) := by decide +kernel
theorem d_FU_reasons_22 : decode b_FU_reasons 22 = .ok (.ireturn, 1) := by decide +kernel
theorem d_Reas_find_0 : decode b_Reas_find 0 = .ok (.iload_n 3, 1) := by decide +kernel
theorem d_Reas_find_1 : decode b_Reas_find 1 = .ok (.istore 4, 2) := by decide +kernel
theorem d_Reas_find_3 : decode b_Reas_find 3 = .ok (.iconst 0, 1) := by decide +kernel
theorem d_Reas_find_4 : decode b_Reas_find 4 = .ok (.istore 5, 2) := by decide +kernel
theorem d_Reas_find_6 : decode b_Reas_find 6 = .ok (.iload 5, 2) := by decide +kernel
theorem d_Reas_find_8 : decode b_Reas_find 8 = .ok (.sipush 896, 3) := by decide +kernel
theorem d_Reas_find_11 : decode b_Reas_find 11 = .ok (.if_icmp .ge 36, 3) := by decide +kernel
theorem d_Reas_find_14 : decode b_Reas_find 14 = .ok (.iload 4, 2) := by decide +kernel
theorem d_Reas_find_16 : decode b_Reas_find 16 = .ok (.ifCond .lt 31, 3) := by decide +kernel
theorem d_Reas_find_19 : decode b_Reas_find 19 = .ok (.aload_n 0, 1) := by decide +kernel
theorem d_Reas_find_20 : decode b_Reas_find 20 = .ok (.iload 5, 2) := by decide +kernel
theorem d_Reas_find_22 : decode b_Reas_find 22 = .ok (.iload_n 1, 1) := by decide +kernel
theorem d_Reas_find_23 : decode b_Reas_find 23 = .ok (.iload_n 2, 1) := by decide +kernel
theorem d_Reas_find_24 : decode b_Reas_find 24 = .ok (.invokevirtual 19, 3) := by decide +kernel
theorem d_Reas_find_27 : decode b_Reas_find 27 = .ok (.ifCond .eq 14, 3) := by decide +kernel
theorem d_Reas_find_30 : decode b_Reas_find 30 = .ok (.iload 4, 2) := by decide +kernel
theorem d_Reas_find_32 : decode b_Reas_find 32 = .ok (.ifCond .ne 6, 3) := by decide +kernel
theorem d_Reas_find_35 : decode b_Reas_find 35 = .ok (.iload 5, 2) := by decide +kernel
theorem d_Reas_find_37 : decode b_Reas_find 37 = .ok (.ireturn, 1) := by decide +kernel
theorem d_Reas_find_38 : decode b_Reas_find 38 = .ok (.iinc 4 (-1), 3) := by decide +kernel
theorem d_Reas_find_41 : decode b_Reas_find 41 = .ok (.iinc 5 1, 3) := by decide +kernel
theorem d_Reas_find_44 : decode b_Reas_find 44 = .ok (.goto (-38), 3) := by decide +kernel
theorem d_Reas_find_47 : decode b_Reas_find 47 = .ok (.iconst (-1), 1) := by decide +kernel
theorem d_Reas_find_48 : decode b_Reas_find 48 = .ok (.ireturn, 1) := by decide +kernel
theorem d_FU_reason_0 : decode b_FU_reason 0 = .ok (.iload 4, 2) := by decide +kernel
theorem d_FU_reason_2 : decode b_FU_reason 2 = .ok (.iconst 2, 1) := by decide +kernel
theorem d_FU_reason_3 : decode b_FU_reason 3 = .ok (.invokestatic 90, 3) := by decide +kernel
theorem d_FU_reason_6 : decode b_FU_reason 6 = .ok (.ifCond .eq 12, 3) := by decide +kernel
theorem d_FU_reason_9 : decode b_FU_reason 9 = .ok (.aload_n 0, 1) := by decide +kernel
theorem d_FU_reason_10 : decode b_FU_reason 10 = .ok (.iload_n 1, 1) := by decide +kernel
theorem d_FU_reason_11 : decode b_FU_reason 11 = .ok (.iload_n 2, 1) := by decide +kernel
theorem d_FU_reason_12 : decode b_FU_reason 12 = .ok (.invokevirtual 162, 3) := by decide +kernel
theorem d_FU_reason_15 : decode b_FU_reason 15 = .ok (.ifCond .ne 5, 3) := by decide +kernel
theorem d_FU_reason_18 : decode b_FU_reason 18 = .ok (.iconst (-1), 1) := by decide +kernel
theorem d_FU_reason_19 : decode b_FU_reason 19 = .ok (.ireturn, 1) := by decide +kernel
theorem d_FU_reason_20 : decode b_FU_reason 20 = .ok (.aload_n 0, 1) := by decide +kernel
theorem d_FU_reason_21 : decode b_FU_reason 21 = .ok (.getfield 63, 3) := by decide +kernel
theorem d_FU_reason_24 : decode b_FU_reason 24 = .ok (.iload_n 1, 1) := by decide +kernel
theorem d_FU_reason_25 : decode b_FU_reason 25 = .ok (.iload_n 2, 1) := by decide +kernel
theorem d_FU_reason_26 : decode b_FU_reason 26 = .ok (.iload_n 3, 1) := by decide +kernel
theorem d_FU_reason_27 : decode b_FU_reason 27 = .ok (.invokevirtual 167, 3) := by decide +kernel
theorem d_FU_reason_30 : decode b_FU_reason 30 = .ok (.istore 5, 2) := by decide +kernel
theorem d_FU_reason_32 : decode b_FU_reason 32 = .ok (.iload 5, 2) := by decide +kernel
theorem d_FU_reason_34 : decode b_FU_reason 34 = .ok (.iconst (-1), 1) := by decide +kernel
theorem d_FU_reason_35 : decode b_FU_reason 35 = .ok (.if_icmp .ne 5, 3) := by decide +kernel
theorem d_FU_reason_38 : decode b_FU_reason 38 = .ok (.iconst (-1), 1) := by decide +kernel
theorem d_FU_reason_39 : decode b_FU_reason 39 = .ok (.ireturn, 1) := by decide +kernel
theorem d_FU_reason_40 : decode b_FU_reason 40 = .ok (.iload 4, 2) := by decide +kernel
theorem d_FU_reason_42 : decode b_FU_reason 42 = .ok (.ifCond .ne 12, 3) := by decide +kernel
theorem d_FU_reason_45 : decode b_FU_reason 45 = .ok (.iload 5, 2) := by decide +kernel
theorem d_FU_reason_47 : decode b_FU_reason 47 = .ok (.sipush 128, 3) := by decide +kernel
theorem d_FU_reason_50 : decode b_FU_reason 50 = .ok (.idiv, 1) := by decide +kernel
theorem d_FU_reason_51 : decode b_FU_reason 51 = .ok (.goto 9, 3) := by decide +kernel
theorem d_FU_reason_54 : decode b_FU_reason 54 = .ok (.iload 5, 2) := by decide +kernel
theorem d_FU_reason_56 : decode b_FU_reason 56 = .ok (.sipush 128, 3) := by decide +kernel
theorem d_FU_reason_59 : decode b_FU_reason 59 = .ok (.irem, 1) := by decide +kernel
theorem d_FU_reason_60 : decode b_FU_reason 60 = .ok (.ireturn, 1) := by decide +kernel
theorem d_Feats_exclude_0 : decode b_Feats_exclude 0 = .ok (.aload_n 0, 1) := by decide +kernel
theorem d_Feats_exclude_1 : decode b_Feats_exclude 1 = .ok (.getfield 22, 3) := by decide +kernel
theorem d_Feats_exclude_4 : decode b_Feats_exclude 4 = .ok (.iload_n 1, 1) := by decide +kernel
theorem d_Feats_exclude_5 : decode b_Feats_exclude 5 = .ok (.iaload, 1) := by decide +kernel
theorem d_Feats_exclude_6 : decode b_Feats_exclude 6 = .ok (.ifCond .eq 37, 3) := by decide +kernel
theorem d_Feats_exclude_9 : decode b_Feats_exclude 9 = .ok (.aload_n 0, 1) := by decide +kernel
theorem d_Feats_exclude_10 : decode b_Feats_exclude 10 = .ok (.getfield 22, 3) := by decide +kernel
theorem d_Feats_exclude_13 : decode b_Feats_exclude 13 = .ok (.iload_n 1, 1) := by decide +kernel
theorem d_Feats_exclude_14 : decode b_Feats_exclude 14 = .ok (.iaload, 1) := by decide +kernel
theorem d_Feats_exclude_15 : decode b_Feats_exclude 15 = .ok (.aload_n 0, 1) := by decide +kernel
theorem d_Feats_exclude_16 : decode b_Feats_exclude 16 = .ok (.getfield 22, 3) := by decide +kernel
theorem d_Feats_exclude_19 : decode b_Feats_exclude 19 = .ok (.iload_n 2, 1) := by decide +kernel
theorem d_Feats_exclude_20 : decode b_Feats_exclude 20 = .ok (.iaload, 1) := by decide +kernel
theorem d_Feats_exclude_21 : decode b_Feats_exclude 21 = .ok (.if_icmp .ne 22, 3) := by decide +kernel
theorem d_Feats_exclude_24 : decode b_Feats_exclude 24 = .ok (.aload_n 0, 1) := by decide +kernel
theorem d_Feats_exclude_25 : decode b_Feats_exclude 25 = .ok (.getfield 15, 3) := by decide +kernel
theorem d_Feats_exclude_28 : decode b_Feats_exclude 28 = .ok (.iload_n 1, 1) := by decide +kernel
theorem d_Feats_exclude_29 : decode b_Feats_exclude 29 = .ok (.iaload, 1) := by decide +kernel
theorem d_Feats_exclude_30 : decode b_Feats_exclude 30 = .ok (.aload_n 0, 1) := by decide +kernel
theorem d_Feats_exclude_31 : decode b_Feats_exclude 31 = .ok (.getfield 15, 3) := by decide +kernel
theorem d_Feats_exclude_34 : decode b_Feats_exclude 34 = .ok (.iload_n 2, 1) := by decide +kernel
theorem d_Feats_exclude_35 : decode b_Feats_exclude 35 = .ok (.iaload, 1) := by decide +kernel
theorem d_Feats_exclude_36 : decode b_Feats_exclude 36 = .ok (.if_icmp .ne 7, 3) := by decide +kernel
theorem d_Feats_exclude_39 : decode b_Feats_exclude 39 = .ok (.iconst 1, 1) := by decide +kernel
theorem d_Feats_exclude_40 : decode b_Feats_exclude 40 = .ok (.goto 4, 3) := by decide +kernel
theorem d_Feats_exclude_43 : decode b_Feats_exclude 43 = .ok (.iconst 0, 1) := by decide +kernel
theorem d_Feats_exclude_44 : decode b_Feats_exclude 44 = .ok (.ireturn, 1) := by decide +kernel
end
section
theorem d_FU_clash_0 : decode b_FU_clash 0 = .ok (.iload_n 1, 1) := by decide +kernel
theorem d_FU_clash_1 : decode b_FU_clash 1 = .ok (.ifCond .lt 11, 3) := by decide +kernel
theorem d_FU_clash_4 : decode b_FU_clash 4 = .ok (.iload_n 2, 1) := by decide +kernel
theorem d_FU_clash_5 : decode b_FU_clash 5 = .ok (.iconst 3, 1) := by decide +kernel
theorem d_FU_clash_6 : decode b_FU_clash 6 = .ok (.invokestatic 90, 3) := by decide +kernel
theorem d_FU_clash_9 : decode b_FU_clash 9 = .ok (.ifCond .ne 5, 3) := by decide +kernel
theorem d_FU_clash_12 : decode b_FU_clash 12 = .ok (.iconst (-1), 1) := by decide +kernel
theorem d_FU_clash_13 : decode b_FU_clash 13 = .ok (.ireturn, 1) := by decide +kernel
theorem d_FU_clash_14 : decode b_FU_clash 14 = .ok (.iload_n 1, 1) := by decide +kernel
theorem d_FU_clash_15 : decode b_FU_clash 15 = .ok (.istore_n 3, 1) := by decide +kernel
theorem d_FU_clash_16 : decode b_FU_clash 16 = .ok (.iconst 0, 1) := by decide +kernel
theorem d_FU_clash_17 : decode b_FU_clash 17 = .ok (.istore 4, 2) := by decide +kernel
theorem d_FU_clash_19 : decode b_FU_clash 19 = .ok (.iload 4, 2) := by decide +kernel
theorem d_FU_clash_21 : decode b_FU_clash 21 = .ok (.aload_n 0, 1) := by decide +kernel
theorem d_FU_clash_22 : decode b_FU_clash 22 = .ok (.getfield 19, 3) := by decide +kernel
theorem d_FU_clash_25 : decode b_FU_clash 25 = .ok (.getfield 102, 3) := by decide +kernel
theorem d_FU_clash_28 : decode b_FU_clash 28 = .ok (.if_icmp .ge 125, 3) := by decide +kernel
theorem d_FU_clash_31 : decode b_FU_clash 31 = .ok (.iload 4, 2) := by decide +kernel
theorem d_FU_clash_33 : decode b_FU_clash 33 = .ok (.iconst 1, 1) := by decide +kernel
theorem d_FU_clash_34 : decode b_FU_clash 34 = .ok (.iadd, 1) := by decide +kernel
theorem d_FU_clash_35 : decode b_FU_clash 35 = .ok (.istore 5, 2) := by decide +kernel
theorem d_FU_clash_37 : decode b_FU_clash 37 = .ok (.iload 5, 2) := by decide +kernel
theorem d_FU_clash_39 : decode b_FU_clash 39 = .ok (.aload_n 0, 1) := by decide +kernel
theorem d_FU_clash_40 : decode b_FU_clash 40 = .ok (.getfield 19, 3) := by decide +kernel
theorem d_FU_clash_43 : decode b_FU_clash 43 = .ok (.getfield 102, 3) := by decide +kernel
theorem d_FU_clash_46 : decode b_FU_clash 46 = .ok (.if_icmp .ge 101, 3) := by decide +kernel
theorem d_FU_clash_49 : decode b_FU_clash 49 = .ok (.aload_n 0, 1) := by decide +kernel
theorem d_FU_clash_50 : decode b_FU_clash 50 = .ok (.getfield 19, 3) := by decide +kernel
theorem d_FU_clash_53 : decode b_FU_clash 53 = .ok (.iload 4, 2) := by decide +kernel
theorem d_FU_clash_55 : decode b_FU_clash 55 = .ok (.iload 5, 2) := by decide +kernel
theorem d_FU_clash_57 : decode b_FU_clash 57 = .ok (.invokevirtual 170, 3) := by decide +kernel
theorem d_FU_clash_60 : decode b_FU_clash 60 = .ok (.ifCond .ne 6, 3) := by decide +kernel
theorem d_FU_clash_63 : decode b_FU_clash 63 = .ok (.goto 78, 3) := by decide +kernel
theorem d_FU_clash_66 : decode b_FU_clash 66 = .ok (.iconst 0, 1) := by decide +kernel
theorem d_FU_clash_67 : decode b_FU_clash 67 = .ok (.istore 6, 2) := by decide +kernel
theorem d_FU_clash_69 : decode b_FU_clash 69 = .ok (.iload 6, 2) := by decide +kernel
theorem d_FU_clash_71 : decode b_FU_clash 71 = .ok (.iconst 2, 1) := by decide +kernel
theorem d_FU_clash_72 : decode b_FU_clash 72 = .ok (.if_icmp .ge 69, 3) := by decide +kernel
theorem d_FU_clash_75 : decode b_FU_clash 75 = .ok (.aload_n 0, 1) := by decide +kernel
theorem d_FU_clash_76 : decode b_FU_clash 76 = .ok (.getfield 51, 3) := by decide +kernel
theorem d_FU_clash_79 : decode b_FU_clash 79 = .ok (.iload 4, 2) := by decide +kernel
theorem d_FU_clash_81 : decode b_FU_clash 81 = .ok (.iload 6, 2) := by decide +kernel
theorem d_FU_clash_83 : decode b_FU_clash 83 = .ok (.invokevirtual 159, 3) := by decide +kernel
theorem d_FU_clash_86 : decode b_FU_clash 86 = .ok (.ifCond .eq 49, 3) := by decide +kernel
theorem d_FU_clash_89 : decode b_FU_clash 89 = .ok (.aload_n 0, 1) := by decide +kernel
theorem d_FU_clash_90 : decode b_FU_clash 90 = .ok (.getfield 51, 3) := by decide +kernel
theorem d_FU_clash_93 : decode b_FU_clash 93 = .ok (.iload 5, 2) := by decide +kernel
theorem d_FU_clash_95 : decode b_FU_clash 95 = .ok (.iload 6, 2) := by decide +kernel
theorem d_FU_clash_97 : decode b_FU_clash 97 = .ok (.invokevirtual 159, 3) := by decide +kernel
theorem d_FU_clash_100 : decode b_FU_clash 100 = .ok (.ifCond .ne 6, 3) := by decide +kernel
theorem d_FU_clash_103 : decode b_FU_clash 103 = .ok (.goto 32, 3) := by decide +kernel
theorem d_FU_clash_106 : decode b_FU_clash 106 = .ok (.iload_n 3, 1) := by decide +kernel
theorem d_FU_clash_107 : decode b_FU_clash 107 = .ok (.ifCond .ne 25, 3) := by decide +kernel
theorem d_FU_clash_110 : decode b_FU_clash 110 = .ok (.iload_n 2, 1) := by decide +kernel
theorem d_FU_clash_111 : decode b_FU_clash 111 = .ok (.ifCond .ne 8, 3) := by decide +kernel
theorem d_FU_clash_114 : decode b_FU_clash 114 = .ok (.iload 4, 2) := by decide +kernel
theorem d_FU_clash_116 : decode b_FU_clash 116 = .ok (.goto 15, 3) := by decide +kernel
theorem d_FU_clash_119 : decode b_FU_clash 119 = .ok (.iload_n 2, 1) := by decide +kernel
theorem d_FU_clash_120 : decode b_FU_clash 120 = .ok (.iconst 1, 1) := by decide +kernel
theorem d_FU_clash_121 : decode b_FU_clash 121 = .ok (.if_icmp .ne 8, 3) := by decide +kernel
theorem d_FU_clash_124 : decode b_FU_clash 124 = .ok (.iload 5, 2) := by decide +kernel
theorem d_FU_clash_126 : decode b_FU_clash 126 = .ok (.goto 5, 3) := by decide +kernel
theorem d_FU_clash_129 : decode b_FU_clash 129 = .ok (.iload 6, 2) := by decide +kernel
theorem d_FU_clash_131 : decode b_FU_clash 131 = .ok (.ireturn, 1) := by decide +kernel
theorem d_FU_clash_132 : decode b_FU_clash 132 = .ok (.iinc 3 (-1), 3) := by decide +kernel
theorem d_FU_clash_135 : decode b_FU_clash 135 = .ok (.iinc 6 1, 3) := by decide +kernel
theorem d_FU_clash_138 : decode b_FU_clash 138 = .ok (.goto (-69), 3) := by decide +kernel
theorem d_FU_clash_141 : decode b_FU_clash 141 = .ok (.iinc 5 1, 3) := by decide +kernel
theorem d_FU_clash_144 : decode b_FU_clash 144 = .ok (.goto (-107), 3) := by decide +kernel
theorem d_FU_clash_147 : decode b_FU_clash 147 = .ok (.iinc 4 1, 3) := by decide +kernel
theorem d_FU_clash_150 : decode b_FU_clash 150 = .ok (.goto (-131), 3) := by decide +kernel
theorem d_FU_clash_153 : decode b_FU_clash 153 = .ok (.iconst (-1), 1) := by decide +kernel
theorem d_FU_clash_154 : decode b_FU_clash 154 = .ok (.ireturn, 1) := by decide +kernel
theorem d_FU_noteLeavers_0 : decode b_FU_noteLeavers 0 = .ok (.aload_n 0, 1) := by decide +kernel
theorem d_FU_noteLeavers_1 : decode b_FU_noteLeavers 1 = .ok (.iconst 0, 1) := by decide +kernel
theorem d_FU_noteLeavers_2 : decode b_FU_noteLeavers 2 = .ok (.putfield 71, 3) := by decide +kernel
theorem d_FU_noteLeavers_5 : decode b_FU_noteLeavers 5 = .ok (.iconst 0, 1) := by decide +kernel
theorem d_FU_noteLeavers_6 : decode b_FU_noteLeavers 6 = .ok (.istore_n 1, 1) := by decide +kernel
theorem d_FU_noteLeavers_7 : decode b_FU_noteLeavers 7 = .ok (.iload_n 1, 1) := by decide +kernel
theorem d_FU_noteLeavers_8 : decode b_FU_noteLeavers 8 = .ok (.aload_n 0, 1) := by decide +kernel
theorem d_FU_noteLeavers_9 : decode b_FU_noteLeavers 9 = .ok (.getfield 19, 3) := by decide +kernel
theorem d_FU_noteLeavers_12 : decode b_FU_noteLeavers 12 = .ok (.getfield 102, 3) := by decide +kernel
theorem d_FU_noteLeavers_15 : decode b_FU_noteLeavers 15 = .ok (.if_icmp .ge 70, 3) := by decide +kernel
theorem d_FU_noteLeavers_18 : decode b_FU_noteLeavers 18 = .ok (.iconst 0, 1) := by decide +kernel
theorem d_FU_noteLeavers_19 : decode b_FU_noteLeavers 19 = .ok (.istore_n 2, 1) := by decide +kernel
theorem d_FU_noteLeavers_20 : decode b_FU_noteLeavers 20 = .ok (.iload_n 2, 1) := by decide +kernel
theorem d_FU_noteLeavers_21 : decode b_FU_noteLeavers 21 = .ok (.iconst 2, 1) := by decide +kernel
theorem d_FU_noteLeavers_22 : decode b_FU_noteLeavers 22 = .ok (.if_icmp .ge 57, 3) := by decide +kernel
theorem d_FU_noteLeavers_25 : decode b_FU_noteLeavers 25 = .ok (.aload_n 0, 1) := by decide +kernel
theorem d_FU_noteLeavers_26 : decode b_FU_noteLeavers 26 = .ok (.getfield 51, 3) := by decide +kernel
theorem d_FU_noteLeavers_29 : decode b_FU_noteLeavers 29 = .ok (.iload_n 1, 1) := by decide +kernel
theorem d_FU_noteLeavers_30 : decode b_FU_noteLeavers 30 = .ok (.iload_n 2, 1) := by decide +kernel
theorem d_FU_noteLeavers_31 : decode b_FU_noteLeavers 31 = .ok (.invokevirtual 159, 3) := by decide +kernel
theorem d_FU_noteLeavers_34 : decode b_FU_noteLeavers 34 = .ok (.ifCond .eq 39, 3) := by decide +kernel
theorem d_FU_noteLeavers_37 : decode b_FU_noteLeavers 37 = .ok (.aload_n 0, 1) := by decide +kernel
theorem d_FU_noteLeavers_38 : decode b_FU_noteLeavers 38 = .ok (.getfield 55, 3) := by decide +kernel
theorem d_FU_noteLeavers_41 : decode b_FU_noteLeavers 41 = .ok (.iload_n 1, 1) := by decide +kernel
theorem d_FU_noteLeavers_42 : decode b_FU_noteLeavers 42 = .ok (.iload_n 2, 1) := by decide +kernel
theorem d_FU_noteLeavers_43 : decode b_FU_noteLeavers 43 = .ok (.invokevirtual 159, 3) := by decide +kernel
theorem d_FU_noteLeavers_46 : decode b_FU_noteLeavers 46 = .ok (.ifCond .ne 27, 3) := by decide +kernel
theorem d_FU_noteLeavers_49 : decode b_FU_noteLeavers 49 = .ok (.aload_n 0, 1) := by decide +kernel
theorem d_FU_noteLeavers_50 : decode b_FU_noteLeavers 50 = .ok (.getfield 67, 3) := by decide +kernel
theorem d_FU_noteLeavers_53 : decode b_FU_noteLeavers 53 = .ok (.aload_n 0, 1) := by decide +kernel
theorem d_FU_noteLeavers_54 : decode b_FU_noteLeavers 54 = .ok (.getfield 71, 3) := by decide +kernel
theorem d_FU_noteLeavers_57 : decode b_FU_noteLeavers 57 = .ok (.iconst 2, 1) := by decide +kernel
theorem d_FU_noteLeavers_58 : decode b_FU_noteLeavers 58 = .ok (.iload_n 1, 1) := by decide +kernel
theorem d_FU_noteLeavers_59 : decode b_FU_noteLeavers 59 = .ok (.imul, 1) := by decide +kernel
theorem d_FU_noteLeavers_60 : decode b_FU_noteLeavers 60 = .ok (.iload_n 2, 1) := by decide +kernel
theorem d_FU_noteLeavers_61 : decode b_FU_noteLeavers 61 = .ok (.iadd, 1) := by decide +kernel
theorem d_FU_noteLeavers_62 : decode b_FU_noteLeavers 62 = .ok (.iastore, 1) := by decide +kernel
theorem d_FU_noteLeavers_63 : decode b_FU_noteLeavers 63 = .ok (.aload_n 0, 1) := by decide +kernel
theorem d_FU_noteLeavers_64 : decode b_FU_noteLeavers 64 = .ok (.dup, 1) := by decide +kernel
theorem d_FU_noteLeavers_65 : decode b_FU_noteLeavers 65 = .ok (.getfield 71, 3) := by decide +kernel
theorem d_FU_noteLeavers_68 : decode b_FU_noteLeavers 68 = .ok (.iconst 1, 1) := by decide +kernel
theorem d_FU_noteLeavers_69 : decode b_FU_noteLeavers 69 = .ok (.iadd, 1) := by decide +kernel
theorem d_FU_noteLeavers_70 : decode b_FU_noteLeavers 70 = .ok (.putfield 71, 3) := by decide +kernel
theorem d_FU_noteLeavers_73 : decode b_FU_noteLeavers 73 = .ok (.iinc 2 1, 3) := by decide +kernel
theorem d_FU_noteLeavers_76 : decode b_FU_noteLeavers 76 = .ok (.goto (-56), 3) := by decide +kernel
theorem d_FU_noteLeavers_79 : decode b_FU_noteLeavers 79 = .ok (.iinc 1 1, 3) := by decide +kernel
theorem d_FU_noteLeavers_82 : decode b_FU_noteLeavers 82 = .ok (.goto (-75), 3) := by decide +kernel
theorem d_FU_noteLeavers_85 : decode b_FU_noteLeavers 85 = .ok (.return_, 1) := by decide +kernel
theorem d_FU_without_0 : decode b_FU_without 0 = .ok (.aload_n 0, 1) := by decide +kernel
theorem d_FU_without_1 : decode b_FU_without 1 = .ok (.getfield 75, 3) := by decide +kernel
theorem d_FU_without_4 : decode b_FU_without 4 = .ok (.ifCond .eq 39, 3) := by decide +kernel
theorem d_FU_without_7 : decode b_FU_without 7 = .ok (.aload_n 0, 1) := by decide +kernel
theorem d_FU_without_8 : decode b_FU_without 8 = .ok (.getfield 26, 3) := by decide +kernel
theorem d_FU_without_11 : decode b_FU_without 11 = .ok (.iload_n 1, 1) := by decide +kernel
theorem d_FU_without_12 : decode b_FU_without 12 = .ok (.invokevirtual 120, 3) := by decide +kernel
theorem d_FU_without_15 : decode b_FU_without 15 = .ok (.ifCond .eq 28, 3) := by decide +kernel
theorem d_FU_without_18 : decode b_FU_without 18 = .ok (.iload_n 2, 1) := by decide +kernel
theorem d_FU_without_19 : decode b_FU_without 19 = .ok (.bipush 32, 2) := by decide +kernel
theorem d_FU_without_21 : decode b_FU_without 21 = .ok (.invokestatic 90, 3) := by decide +kernel
theorem d_FU_without_24 : decode b_FU_without 24 = .ok (.ifCond .eq 19, 3) := by decide +kernel
theorem d_FU_without_27 : decode b_FU_without 27 = .ok (.aload_n 0, 1) := by decide +kernel
theorem d_FU_without_28 : decode b_FU_without 28 = .ok (.getfield 42, 3) := by decide +kernel
theorem d_FU_without_31 : decode b_FU_without 31 = .ok (.getfield 173, 3) := by decide +kernel
theorem d_FU_without_34 : decode b_FU_without 34 = .ok (.iload_n 1, 1) := by decide +kernel
theorem d_FU_without_35 : decode b_FU_without 35 = .ok (.iaload, 1) := by decide +kernel
theorem d_FU_without_36 : decode b_FU_without 36 = .ok (.iload_n 2, 1) := by decide +kernel
theorem d_FU_without_37 : decode b_FU_without 37 = .ok (.invokestatic 109, 3) := by decide +kernel
theorem d_FU_without_40 : decode b_FU_without 40 = .ok (.ifCond .ne 5, 3) := by decide +kernel
theorem d_FU_without_43 : decode b_FU_without 43 = .ok (.iconst (-1), 1) := by decide +kernel
theorem d_FU_without_44 : decode b_FU_without 44 = .ok (.ireturn, 1) := by decide +kernel
theorem d_FU_without_45 : decode b_FU_without 45 = .ok (.aload_n 0, 1) := by decide +kernel
theorem d_FU_without_46 : decode b_FU_without 46 = .ok (.getfield 42, 3) := by decide +kernel
theorem d_FU_without_49 : decode b_FU_without 49 = .ok (.getfield 173, 3) := by decide +kernel
theorem d_FU_without_52 : decode b_FU_without 52 = .ok (.iload_n 1, 1) := by decide +kernel
theorem d_FU_without_53 : decode b_FU_without 53 = .ok (.iaload, 1) := by decide +kernel
theorem d_FU_without_54 : decode b_FU_without 54 = .ok (.istore_n 3, 1) := by decide +kernel
theorem d_FU_without_55 : decode b_FU_without 55 = .ok (.aload_n 0, 1) := by decide +kernel
theorem d_FU_without_56 : decode b_FU_without 56 = .ok (.getfield 42, 3) := by decide +kernel
theorem d_FU_without_59 : decode b_FU_without 59 = .ok (.getfield 173, 3) := by decide +kernel
theorem d_FU_without_62 : decode b_FU_without 62 = .ok (.iload_n 1, 1) := by decide +kernel
theorem d_FU_without_63 : decode b_FU_without 63 = .ok (.iload_n 3, 1) := by decide +kernel
theorem d_FU_without_64 : decode b_FU_without 64 = .ok (.iconst 1, 1) := by decide +kernel
theorem d_FU_without_65 : decode b_FU_without 65 = .ok (.iload_n 2, 1) := by decide +kernel
theorem d_FU_without_66 : decode b_FU_without 66 = .ok (.ishl, 1) := by decide +kernel
theorem d_FU_without_67 : decode b_FU_without 67 = .ok (.iconst (-1), 1) := by decide +kernel
theorem d_FU_without_68 : decode b_FU_without 68 = .ok (.ixor, 1) := by decide +kernel
theorem d_FU_without_69 : decode b_FU_without 69 = .ok (.iand, 1) := by decide +kernel
theorem d_FU_without_70 : decode b_FU_without 70 = .ok (.iastore, 1) := by decide +kernel
theorem d_FU_without_71 : decode b_FU_without 71 = .ok (.aload_n 0, 1) := by decide +kernel
theorem d_FU_without_72 : decode b_FU_without 72 = .ok (.getfield 55, 3) := by decide +kernel
theorem d_FU_without_75 : decode b_FU_without 75 = .ok (.invokevirtual 146, 3) := by decide +kernel
theorem d_FU_without_78 : decode b_FU_without 78 = .ok (.aload_n 0, 1) := by decide +kernel
theorem d_FU_without_79 : decode b_FU_without 79 = .ok (.getfield 42, 3) := by decide +kernel
theorem d_FU_without_82 : decode b_FU_without 82 = .ok (.getfield 173, 3) := by decide +kernel
theorem d_FU_without_85 : decode b_FU_without 85 = .ok (.iload_n 1, 1) := by decide +kernel
theorem d_FU_without_86 : decode b_FU_without 86 = .ok (.iload_n 3, 1) := by decide +kernel
theorem d_FU_without_87 : decode b_FU_without 87 = .ok (.iastore, 1) := by decide +kernel
theorem d_FU_without_88 : decode b_FU_without 88 = .ok (.aload_n 0, 1) := by decide +kernel
theorem d_FU_without_89 : decode b_FU_without 89 = .ok (.invokevirtual 174, 3) := by decide +kernel
theorem d_FU_without_92 : decode b_FU_without 92 = .ok (.aload_n 0, 1) := by decide +kernel
theorem d_FU_without_93 : decode b_FU_without 93 = .ok (.getfield 71, 3) := by decide +kernel
theorem d_FU_without_96 : decode b_FU_without 96 = .ok (.ireturn, 1) := by decide +kernel
theorem d_FU_left_0 : decode b_FU_left 0 = .ok (.iload_n 1, 1) := by decide +kernel
theorem d_FU_left_1 : decode b_FU_left 1 = .ok (.aload_n 0, 1) := by decide +kernel
theorem d_FU_left_2 : decode b_FU_left 2 = .ok (.getfield 71, 3) := by decide +kernel
theorem d_FU_left_5 : decode b_FU_left 5 = .ok (.invokestatic 90, 3) := by decide +kernel
theorem d_FU_left_8 : decode b_FU_left 8 = .ok (.ifCond .eq 12, 3) := by decide +kernel
theorem d_FU_left_11 : decode b_FU_left 11 = .ok (.aload_n 0, 1) := by decide +kernel
theorem d_FU_left_12 : decode b_FU_left 12 = .ok (.getfield 67, 3) := by decide +kernel
theorem d_FU_left_15 : decode b_FU_left 15 = .ok (.iload_n 1, 1) := by decide +kernel
theorem d_FU_left_16 : decode b_FU_left 16 = .ok (.iaload, 1) := by decide +kernel
theorem d_FU_left_17 : decode b_FU_left 17 = .ok (.goto 4, 3) := by decide +kernel
theorem d_FU_left_20 : decode b_FU_left 20 = .ok (.iconst (-1), 1) := by decide +kernel
theorem d_FU_left_21 : decode b_FU_left 21 = .ok (.ireturn, 1) := by decide +kernel
theorem d_Mod_init_0 : decode b_Mod_init 0 = .ok (.aload_n 0, 1) := by decide +kernel
theorem d_Mod_init_1 : decode b_Mod_init 1 = .ok (.invokespecial 1, 3) := by decide +kernel
theorem d_Mod_init_4 : decode b_Mod_init 4 = .ok (.aload_n 0, 1) := by decide +kernel
theorem d_Mod_init_5 : decode b_Mod_init 5 = .ok (.bipush 10, 2) := by decide +kernel
theorem d_Mod_init_7 : decode b_Mod_init 7 = .ok (.newarray .boolean, 2) := by decide +kernel
theorem d_Mod_init_9 : decode b_Mod_init 9 = .ok (.putfield 7, 3) := by decide +kernel
theorem d_Mod_init_12 : decode b_Mod_init 12 = .ok (.aload_n 0, 1) := by decide +kernel
theorem d_Mod_init_13 : decode b_Mod_init 13 = .ok (.bipush 10, 2) := by decide +kernel
theorem d_Mod_init_15 : decode b_Mod_init 15 = .ok (.newarray .boolean, 2) := by decide +kernel
theorem d_Mod_init_17 : decode b_Mod_init 17 = .ok (.putfield 13, 3) := by decide +kernel
theorem d_Mod_init_20 : decode b_Mod_init 20 = .ok (.aload_n 0, 1) := by decide +kernel
theorem d_Mod_init_21 : decode b_Mod_init 21 = .ok (.bipush 10, 2) := by decide +kernel
theorem d_Mod_init_23 : decode b_Mod_init 23 = .ok (.newarray .boolean, 2) := by decide +kernel
theorem d_Mod_init_25 : decode b_Mod_init 25 = .ok (.putfield 16, 3) := by decide +kernel
theorem d_Mod_init_28 : decode b_Mod_init 28 = .ok (.aload_n 0, 1) := by decide +kernel
theorem d_Mod_init_29 : decode b_Mod_init 29 = .ok (.bipush 60, 2) := by decide +kernel
theorem d_Mod_init_31 : decode b_Mod_init 31 = .ok (.newarray .int, 2) := by decide +kernel
theorem d_Mod_init_33 : decode b_Mod_init 33 = .ok (.putfield 19, 3) := by decide +kernel
theorem d_Mod_init_36 : decode b_Mod_init 36 = .ok (.aload_n 0, 1) := by decide +kernel
theorem d_Mod_init_37 : decode b_Mod_init 37 = .ok (.bipush 60, 2) := by decide +kernel
theorem d_Mod_init_39 : decode b_Mod_init 39 = .ok (.newarray .int, 2) := by decide +kernel
theorem d_Mod_init_41 : decode b_Mod_init 41 = .ok (.putfield 23, 3) := by decide +kernel
theorem d_Mod_init_44 : decode b_Mod_init 44 = .ok (.aload_n 0, 1) := by decide +kernel
theorem d_Mod_init_45 : decode b_Mod_init 45 = .ok (.bipush 60, 2) := by decide +kernel
theorem d_Mod_init_47 : decode b_Mod_init 47 = .ok (.newarray .int, 2) := by decide +kernel
theorem d_Mod_init_49 : decode b_Mod_init 49 = .ok (.putfield 26, 3) := by decide +kernel
theorem d_Mod_init_52 : decode b_Mod_init 52 = .ok (.aload_n 0, 1) := by decide +kernel
theorem d_Mod_init_53 : decode b_Mod_init 53 = .ok (.bipush 60, 2) := by decide +kernel
theorem d_Mod_init_55 : decode b_Mod_init 55 = .ok (.newarray .boolean, 2) := by decide +kernel
theorem d_Mod_init_57 : decode b_Mod_init 57 = .ok (.putfield 29, 3) := by decide +kernel
theorem d_Mod_init_60 : decode b_Mod_init 60 = .ok (.aload_n 0, 1) := by decide +kernel
theorem d_Mod_init_61 : decode b_Mod_init 61 = .ok (.bipush 40, 2) := by decide +kernel
theorem d_Mod_init_63 : decode b_Mod_init 63 = .ok (.newarray .int, 2) := by decide +kernel
theorem d_Mod_init_65 : decode b_Mod_init 65 = .ok (.putfield 32, 3) := by decide +kernel
theorem d_Mod_init_68 : decode b_Mod_init 68 = .ok (.aload_n 0, 1) := by decide +kernel
theorem d_Mod_init_69 : decode b_Mod_init 69 = .ok (.bipush 40, 2) := by decide +kernel
theorem d_Mod_init_71 : decode b_Mod_init 71 = .ok (.newarray .int, 2) := by decide +kernel
theorem d_Mod_init_73 : decode b_Mod_init 73 = .ok (.putfield 35, 3) := by decide +kernel
theorem d_Mod_init_76 : decode b_Mod_init 76 = .ok (.aload_n 0, 1) := by decide +kernel
theorem d_Mod_init_77 : decode b_Mod_init 77 = .ok (.bipush 40, 2) := by decide +kernel
theorem d_Mod_init_79 : decode b_Mod_init 79 = .ok (.newarray .int, 2) := by decide +kernel
theorem d_Mod_init_81 : decode b_Mod_init 81 = .ok (.putfield 38, 3) := by decide +kernel
theorem d_Mod_init_84 : decode b_Mod_init 84 = .ok (.aload_n 0, 1) := by decide +kernel
theorem d_Mod_init_85 : decode b_Mod_init 85 = .ok (.bipush 40, 2) := by decide +kernel
theorem d_Mod_init_87 : decode b_Mod_init 87 = .ok (.newarray .boolean, 2) := by decide +kernel
theorem d_Mod_init_89 : decode b_Mod_init 89 = .ok (.putfield 41, 3) := by decide +kernel
theorem d_Mod_init_92 : decode b_Mod_init 92 = .ok (.aload_n 0, 1) := by decide +kernel
theorem d_Mod_init_93 : decode b_Mod_init 93 = .ok (.bipush 40, 2) := by decide +kernel
theorem d_Mod_init_95 : decode b_Mod_init 95 = .ok (.newarray .boolean, 2) := by decide +kernel
theorem d_Mod_init_97 : decode b_Mod_init 97 = .ok (.putfield 44, 3) := by decide +kernel
theorem d_Mod_init_100 : decode b_Mod_init 100 = .ok (.aload_n 0, 1) := by decide +kernel
theorem d_Mod_init_101 : decode b_Mod_init 101 = .ok (.bipush 40, 2) := by decide +kernel
theorem d_Mod_init_103 : decode b_Mod_init 103 = .ok (.newarray .boolean, 2) := by decide +kernel
theorem d_Mod_init_105 : decode b_Mod_init 105 = .ok (.putfield 47, 3) := by decide +kernel
theorem d_Mod_init_108 : decode b_Mod_init 108 = .ok (.aload_n 0, 1) := by decide +kernel
theorem d_Mod_init_109 : decode b_Mod_init 109 = .ok (.sipush 400, 3) := by decide +kernel
theorem d_Mod_init_112 : decode b_Mod_init 112 = .ok (.newarray .int, 2) := by decide +kernel
theorem d_Mod_init_114 : decode b_Mod_init 114 = .ok (.putfield 50, 3) := by decide +kernel
theorem d_Mod_init_117 : decode b_Mod_init 117 = .ok (.aload_n 0, 1) := by decide +kernel
theorem d_Mod_init_118 : decode b_Mod_init 118 = .ok (.sipush 400, 3) := by decide +kernel
theorem d_Mod_init_121 : decode b_Mod_init 121 = .ok (.newarray .int, 2) := by decide +kernel
theorem d_Mod_init_123 : decode b_Mod_init 123 = .ok (.putfield 53, 3) := by decide +kernel
theorem d_Mod_init_126 : decode b_Mod_init 126 = .ok (.aload_n 0, 1) := by decide +kernel
theorem d_Mod_init_127 : decode b_Mod_init 127 = .ok (.bipush 60, 2) := by decide +kernel
theorem d_Mod_init_129 : decode b_Mod_init 129 = .ok (.newarray .int, 2) := by decide +kernel
theorem d_Mod_init_131 : decode b_Mod_init 131 = .ok (.putfield 56, 3) := by decide +kernel
theorem d_Mod_init_134 : decode b_Mod_init 134 = .ok (.aload_n 0, 1) := by decide +kernel
theorem d_Mod_init_135 : decode b_Mod_init 135 = .ok (.bipush 60, 2) := by decide +kernel
theorem d_Mod_init_137 : decode b_Mod_init 137 = .ok (.newarray .int, 2) := by decide +kernel
theorem d_Mod_init_139 : decode b_Mod_init 139 = .ok (.putfield 59, 3) := by decide +kernel
theorem d_Mod_init_142 : decode b_Mod_init 142 = .ok (.aload_n 0, 1) := by decide +kernel
theorem d_Mod_init_143 : decode b_Mod_init 143 = .ok (.bipush 60, 2) := by decide +kernel
theorem d_Mod_init_145 : decode b_Mod_init 145 = .ok (.newarray .int, 2) := by decide +kernel
theorem d_Mod_init_147 : decode b_Mod_init 147 = .ok (.putfield 62, 3) := by decide +kernel
theorem d_Mod_init_150 : decode b_Mod_init 150 = .ok (.aload_n 0, 1) := by decide +kernel
theorem d_Mod_init_151 : decode b_Mod_init 151 = .ok (.bipush 60, 2) := by decide +kernel
theorem d_Mod_init_153 : decode b_Mod_init 153 = .ok (.newarray .int, 2) := by decide +kernel
theorem d_Mod_init_155 : decode b_Mod_init 155 = .ok (.putfield 65, 3) := by decide +kernel
theorem d_Mod_init_158 : decode b_Mod_init 158 = .ok (.aload_n 0, 1) := by decide +kernel
theorem d_Mod_init_159 : decode b_Mod_init 159 = .ok (.bipush 10, 2) := by decide +kernel
theorem d_Mod_init_161 : decode b_Mod_init 161 = .ok (.newarray .boolean, 2) := by decide +kernel
theorem d_Mod_init_163 : decode b_Mod_init 163 = .ok (.putfield 68, 3) := by decide +kernel
theorem d_Mod_init_166 : decode b_Mod_init 166 = .ok (.aload_n 0, 1) := by decide +kernel
theorem d_Mod_init_167 : decode b_Mod_init 167 = .ok (.bipush 20, 2) := by decide +kernel
theorem d_Mod_init_169 : decode b_Mod_init 169 = .ok (.newarray .int, 2) := by decide +kernel
theorem d_Mod_init_171 : decode b_Mod_init 171 = .ok (.putfield 71, 3) := by decide +kernel
theorem d_Mod_init_174 : decode b_Mod_init 174 = .ok (.aload_n 0, 1) := by decide +kernel
theorem d_Mod_init_175 : decode b_Mod_init 175 = .ok (.bipush 80, 2) := by decide +kernel
theorem d_Mod_init_177 : decode b_Mod_init 177 = .ok (.newarray .int, 2) := by decide +kernel
theorem d_Mod_init_179 : decode b_Mod_init 179 = .ok (.putfield 74, 3) := by decide +kernel
theorem d_Mod_init_182 : decode b_Mod_init 182 = .ok (.aload_n 0, 1) := by decide +kernel
theorem d_Mod_init_183 : decode b_Mod_init 183 = .ok (.bipush 120, 2) := by decide +kernel
theorem d_Mod_init_185 : decode b_Mod_init 185 = .ok (.newarray .int, 2) := by decide +kernel
theorem d_Mod_init_187 : decode b_Mod_init 187 = .ok (.putfield 77, 3) := by decide +kernel
theorem d_Mod_init_190 : decode b_Mod_init 190 = .ok (.aload_n 0, 1) := by decide +kernel
theorem d_Mod_init_191 : decode b_Mod_init 191 = .ok (.bipush 20, 2) := by decide +kernel
theorem d_Mod_init_193 : decode b_Mod_init 193 = .ok (.newarray .int, 2) := by decide +kernel
theorem d_Mod_init_195 : decode b_Mod_init 195 = .ok (.putfield 80, 3) := by decide +kernel
theorem d_Mod_init_198 : decode b_Mod_init 198 = .ok (.aload_n 0, 1) := by decide +kernel
theorem d_Mod_init_199 : decode b_Mod_init 199 = .ok (.bipush 80, 2) := by decide +kernel
theorem d_Mod_init_201 : decode b_Mod_init 201 = .ok (.newarray .int, 2) := by decide +kernel
theorem d_Mod_init_203 : decode b_Mod_init 203 = .ok (.putfield 83, 3) := by decide +kernel
theorem d_Mod_init_206 : decode b_Mod_init 206 = .ok (.aload_n 0, 1) := by decide +kernel
theorem d_Mod_init_207 : decode b_Mod_init 207 = .ok (.bipush 120, 2) := by decide +kernel
theorem d_Mod_init_209 : decode b_Mod_init 209 = .ok (.newarray .int, 2) := by decide +kernel
theorem d_Mod_init_211 : decode b_Mod_init 211 = .ok (.putfield 86, 3) := by decide +kernel
theorem d_Mod_init_214 : decode b_Mod_init 214 = .ok (.aload_n 0, 1) := by decide +kernel
theorem d_Mod_init_215 : decode b_Mod_init 215 = .ok (.iconst (-1), 1) := by decide +kernel
theorem d_Mod_init_216 : decode b_Mod_init 216 = .ok (.putfield 89, 3) := by decide +kernel
theorem d_Mod_init_219 : decode b_Mod_init 219 = .ok (.aload_n 0, 1) := by decide +kernel
theorem d_Mod_init_220 : decode b_Mod_init 220 = .ok (.bipush 120, 2) := by decide +kernel
theorem d_Mod_init_222 : decode b_Mod_init 222 = .ok (.newarray .int, 2) := by decide +kernel
theorem d_Mod_init_224 : decode b_Mod_init 224 = .ok (.putfield 93, 3) := by decide +kernel
theorem d_Mod_init_227 : decode b_Mod_init 227 = .ok (.aload_n 0, 1) := by decide +kernel
theorem d_Mod_init_228 : decode b_Mod_init 228 = .ok (.sipush 400, 3) := by decide +kernel
theorem d_Mod_init_231 : decode b_Mod_init 231 = .ok (.newarray .int, 2) := by decide +kernel
theorem d_Mod_init_233 : decode b_Mod_init 233 = .ok (.putfield 96, 3) := by decide +kernel
theorem d_Mod_init_236 : decode b_Mod_init 236 = .ok (.aload_n 0, 1) := by decide +kernel
theorem d_Mod_init_237 : decode b_Mod_init 237 = .ok (.sipush 400, 3) := by decide +kernel
theorem d_Mod_init_240 : decode b_Mod_init 240 = .ok (.newarray .int, 2) := by decide +kernel
theorem d_Mod_init_242 : decode b_Mod_init 242 = .ok (.putfield 99, 3) := by decide +kernel
theorem d_Mod_init_245 : decode b_Mod_init 245 = .ok (.return_, 1) := by decide +kernel
theorem d_Mod_isPack_0 : decode b_Mod_isPack 0 = .ok (.iload_n 1, 1) := by decide +kernel
theorem d_Mod_isPack_1 : decode b_Mod_isPack 1 = .ok (.ifCond .lt 15, 3) := by decide +kernel
theorem d_Mod_isPack_4 : decode b_Mod_isPack 4 = .ok (.iload_n 1, 1) := by decide +kernel
theorem d_Mod_isPack_5 : decode b_Mod_isPack 5 = .ok (.aload_n 0, 1) := by decide +kernel
theorem d_Mod_isPack_6 : decode b_Mod_isPack 6 = .ok (.getfield 105, 3) := by decide +kernel
theorem d_Mod_isPack_9 : decode b_Mod_isPack 9 = .ok (.if_icmp .ge 7, 3) := by decide +kernel
theorem d_Mod_isPack_12 : decode b_Mod_isPack 12 = .ok (.iconst 1, 1) := by decide +kernel
theorem d_Mod_isPack_13 : decode b_Mod_isPack 13 = .ok (.goto 4, 3) := by decide +kernel
theorem d_Mod_isPack_16 : decode b_Mod_isPack 16 = .ok (.iconst 0, 1) := by decide +kernel
theorem d_Mod_isPack_17 : decode b_Mod_isPack 17 = .ok (.ireturn, 1) := by decide +kernel
theorem d_Mod_isUser_0 : decode b_Mod_isUser 0 = .ok (.iload_n 1, 1) := by decide +kernel
theorem d_Mod_isUser_1 : decode b_Mod_isUser 1 = .ok (.ifCond .lt 15, 3) := by decide +kernel
theorem d_Mod_isUser_4 : decode b_Mod_isUser 4 = .ok (.iload_n 1, 1) := by decide +kernel
theorem d_Mod_isUser_5 : decode b_Mod_isUser 5 = .ok (.aload_n 0, 1) := by decide +kernel
theorem d_Mod_isUser_6 : decode b_Mod_isUser 6 = .ok (.getfield 108, 3) := by decide +kernel
theorem d_Mod_isUser_9 : decode b_Mod_isUser 9 = .ok (.if_icmp .ge 7, 3) := by decide +kernel
theorem d_Mod_isUser_12 : decode b_Mod_isUser 12 = .ok (.iconst 1, 1) := by decide +kernel
theorem d_Mod_isUser_13 : decode b_Mod_isUser 13 = .ok (.goto 4, 3) := by decide +kernel
theorem d_Mod_isUser_16 : decode b_Mod_isUser 16 = .ok (.iconst 0, 1) := by decide +kernel
theorem d_Mod_isUser_17 : decode b_Mod_isUser 17 = .ok (.ireturn, 1) := by decide +kernel
theorem d_Mod_isFeature_0 : decode b_Mod_isFeature 0 = .ok (.iload_n 1, 1) := by decide +kernel
theorem d_Mod_isFeature_1 : decode b_Mod_isFeature 1 = .ok (.ifCond .lt 15, 3) := by decide +kernel
theorem d_Mod_isFeature_4 : decode b_Mod_isFeature 4 = .ok (.iload_n 1, 1) := by decide +kernel
theorem d_Mod_isFeature_5 : decode b_Mod_isFeature 5 = .ok (.aload_n 0, 1) := by decide +kernel
theorem d_Mod_isFeature_6 : decode b_Mod_isFeature 6 = .ok (.getfield 111, 3) := by decide +kernel
theorem d_Mod_isFeature_9 : decode b_Mod_isFeature 9 = .ok (.if_icmp .ge 7, 3) := by decide +kernel
theorem d_Mod_isFeature_12 : decode b_Mod_isFeature 12 = .ok (.iconst 1, 1) := by decide +kernel
theorem d_Mod_isFeature_13 : decode b_Mod_isFeature 13 = .ok (.goto 4, 3) := by decide +kernel
theorem d_Mod_isFeature_16 : decode b_Mod_isFeature 16 = .ok (.iconst 0, 1) := by decide +kernel
theorem d_Mod_isFeature_17 : decode b_Mod_isFeature 17 = .ok (.ireturn, 1) := by decide +kernel
theorem d_Mod_pack_0 : decode b_Mod_pack 0 = .ok (.aload_n 0, 1) := by decide +kernel
theorem d_Mod_pack_1 : decode b_Mod_pack 1 = .ok (.iconst 0, 1) := by decide +kernel
theorem d_Mod_pack_2 : decode b_Mod_pack 2 = .ok (.putfield 102, 3) := by decide +kernel
theorem d_Mod_pack_5 : decode b_Mod_pack 5 = .ok (.aload_n 0, 1) := by decide +kernel
theorem d_Mod_pack_6 : decode b_Mod_pack 6 = .ok (.getfield 105, 3) := by decide +kernel
theorem d_Mod_pack_9 : decode b_Mod_pack 9 = .ok (.bipush 10, 2) := by decide +kernel
theorem d_Mod_pack_11 : decode b_Mod_pack 11 = .ok (.if_icmp .ne 5, 3) := by decide +kernel
theorem d_Mod_pack_14 : decode b_Mod_pack 14 = .ok (.iconst (-1), 1) := by decide +kernel
theorem d_Mod_pack_15 : decode b_Mod_pack 15 = .ok (.ireturn, 1) := by decide +kernel
theorem d_Mod_pack_16 : decode b_Mod_pack 16 = .ok (.aload_n 0, 1) := by decide +kernel
theorem d_Mod_pack_17 : decode b_Mod_pack 17 = .ok (.getfield 7, 3) := by decide +kernel
theorem d_Mod_pack_20 : decode b_Mod_pack 20 = .ok (.aload_n 0, 1) := by decide +kernel
theorem d_Mod_pack_21 : decode b_Mod_pack 21 = .ok (.getfield 105, 3) := by decide +kernel
theorem d_Mod_pack_24 : decode b_Mod_pack 24 = .ok (.iload_n 1, 1) := by decide +kernel
theorem d_Mod_pack_25 : decode b_Mod_pack 25 = .ok (.bastore, 1) := by decide +kernel
theorem d_Mod_pack_26 : decode b_Mod_pack 26 = .ok (.aload_n 0, 1) := by decide +kernel
theorem d_Mod_pack_27 : decode b_Mod_pack 27 = .ok (.dup, 1) := by decide +kernel
theorem d_Mod_pack_28 : decode b_Mod_pack 28 = .ok (.getfield 105, 3) := by decide +kernel
theorem d_Mod_pack_31 : decode b_Mod_pack 31 = .ok (.iconst 1, 1) := by decide +kernel
theorem d_Mod_pack_32 : decode b_Mod_pack 32 = .ok (.iadd, 1) := by decide +kernel
theorem d_Mod_pack_33 : decode b_Mod_pack 33 = .ok (.putfield 105, 3) := by decide +kernel
theorem d_Mod_pack_36 : decode b_Mod_pack 36 = .ok (.aload_n 0, 1) := by decide +kernel
theorem d_Mod_pack_37 : decode b_Mod_pack 37 = .ok (.iconst 1, 1) := by decide +kernel
theorem d_Mod_pack_38 : decode b_Mod_pack 38 = .ok (.putfield 114, 3) := by decide +kernel
theorem d_Mod_pack_41 : decode b_Mod_pack 41 = .ok (.aload_n 0, 1) := by decide +kernel
theorem d_Mod_pack_42 : decode b_Mod_pack 42 = .ok (.getfield 105, 3) := by decide +kernel
theorem d_Mod_pack_45 : decode b_Mod_pack 45 = .ok (.iconst 1, 1) := by decide +kernel
theorem d_Mod_pack_46 : decode b_Mod_pack 46 = .ok (.isub, 1) := by decide +kernel
theorem d_Mod_pack_47 : decode b_Mod_pack 47 = .ok (.ireturn, 1) := by decide +kernel
theorem d_Mod_named_0 : decode b_Mod_named 0 = .ok (.iconst (-1), 1) := by decide +kernel
theorem d_Mod_named_1 : decode b_Mod_named 1 = .ok (.istore_n 3, 1) := by decide +kernel
theorem d_Mod_named_2 : decode b_Mod_named 2 = .ok (.iconst 0, 1) := by decide +kernel
theorem d_Mod_named_3 : decode b_Mod_named 3 = .ok (.istore 4, 2) := by decide +kernel
theorem d_Mod_named_5 : decode b_Mod_named 5 = .ok (.iload 4, 2) := by decide +kernel
theorem d_Mod_named_7 : decode b_Mod_named 7 = .ok (.aload_n 0, 1) := by decide +kernel
theorem d_Mod_named_8 : decode b_Mod_named 8 = .ok (.getfield 111, 3) := by decide +kernel
theorem d_Mod_named_11 : decode b_Mod_named 11 = .ok (.if_icmp .ge 38, 3) := by decide +kernel
theorem d_Mod_named_14 : decode b_Mod_named 14 = .ok (.aload_n 0, 1) := by decide +kernel
theorem d_Mod_named_15 : decode b_Mod_named 15 = .ok (.getfield 19, 3) := by decide +kernel
theorem d_Mod_named_18 : decode b_Mod_named 18 = .ok (.iload 4, 2) := by decide +kernel
theorem d_Mod_named_20 : decode b_Mod_named 20 = .ok (.iaload, 1) := by decide +kernel
theorem d_Mod_named_21 : decode b_Mod_named 21 = .ok (.iload_n 1, 1) := by decide +kernel
theorem d_Mod_named_22 : decode b_Mod_named 22 = .ok (.if_icmp .ne 19, 3) := by decide +kernel
theorem d_Mod_named_25 : decode b_Mod_named 25 = .ok (.aload_n 0, 1) := by decide +kernel
theorem d_Mod_named_26 : decode b_Mod_named 26 = .ok (.getfield 23, 3) := by decide +kernel
theorem d_Mod_named_29 : decode b_Mod_named 29 = .ok (.iload 4, 2) := by decide +kernel
theorem d_Mod_named_31 : decode b_Mod_named 31 = .ok (.iaload, 1) := by decide +kernel
theorem d_Mod_named_32 : decode b_Mod_named 32 = .ok (.iload_n 2, 1) := by decide +kernel
theorem d_Mod_named_33 : decode b_Mod_named 33 = .ok (.if_icmp .ne 8, 3) := by decide +kernel
theorem d_Mod_named_36 : decode b_Mod_named 36 = .ok (.iload 4, 2) := by decide +kernel
theorem d_Mod_named_38 : decode b_Mod_named 38 = .ok (.goto 4, 3) := by decide +kernel
theorem d_Mod_named_41 : decode b_Mod_named 41 = .ok (.iload_n 3, 1) := by decide +kernel
theorem d_Mod_named_42 : decode b_Mod_named 42 = .ok (.istore_n 3, 1) := by decide +kernel
theorem d_Mod_named_43 : decode b_Mod_named 43 = .ok (.iinc 4 1, 3) := by decide +kernel
theorem d_Mod_named_46 : decode b_Mod_named 46 = .ok (.goto (-41), 3) := by decide +kernel
theorem d_Mod_named_49 : decode b_Mod_named 49 = .ok (.iload_n 3, 1) := by decide +kernel
theorem d_Mod_named_50 : decode b_Mod_named 50 = .ok (.ireturn, 1) := by decide +kernel
theorem d_Mod_many_0 : decode b_Mod_many 0 = .ok (.iconst 0, 1) := by decide +kernel
theorem d_Mod_many_1 : decode b_Mod_many 1 = .ok (.istore_n 2, 1) := by decide +kernel
theorem d_Mod_many_2 : decode b_Mod_many 2 = .ok (.iconst 0, 1) := by decide +kernel
theorem d_Mod_many_3 : decode b_Mod_many 3 = .ok (.istore_n 3, 1) := by decide +kernel
theorem d_Mod_many_4 : decode b_Mod_many 4 = .ok (.iload_n 3, 1) := by decide +kernel
theorem d_Mod_many_5 : decode b_Mod_many 5 = .ok (.aload_n 0, 1) := by decide +kernel
theorem d_Mod_many_6 : decode b_Mod_many 6 = .ok (.getfield 111, 3) := by decide +kernel
theorem d_Mod_many_9 : decode b_Mod_many 9 = .ok (.if_icmp .ge 27, 3) := by decide +kernel
theorem d_Mod_many_12 : decode b_Mod_many 12 = .ok (.iload_n 2, 1) := by decide +kernel
theorem d_Mod_many_13 : decode b_Mod_many 13 = .ok (.aload_n 0, 1) := by decide +kernel
theorem d_Mod_many_14 : decode b_Mod_many 14 = .ok (.getfield 19, 3) := by decide +kernel
theorem d_Mod_many_17 : decode b_Mod_many 17 = .ok (.iload_n 3, 1) := by decide +kernel
theorem d_Mod_many_18 : decode b_Mod_many 18 = .ok (.iaload, 1) := by decide +kernel
theorem d_Mod_many_19 : decode b_Mod_many 19 = .ok (.iload_n 1, 1) := by decide +kernel
theorem d_Mod_many_20 : decode b_Mod_many 20 = .ok (.if_icmp .ne 7, 3) := by decide +kernel
theorem d_Mod_many_23 : decode b_Mod_many 23 = .ok (.iconst 1, 1) := by decide +kernel
theorem d_Mod_many_24 : decode b_Mod_many 24 = .ok (.goto 4, 3) := by decide +kernel
theorem d_Mod_many_27 : decode b_Mod_many 27 = .ok (.iconst 0, 1) := by decide +kernel
theorem d_Mod_many_28 : decode b_Mod_many 28 = .ok (.iadd, 1) := by decide +kernel
theorem d_Mod_many_29 : decode b_Mod_many 29 = .ok (.istore_n 2, 1) := by decide +kernel
theorem d_Mod_many_30 : decode b_Mod_many 30 = .ok (.iinc 3 1, 3) := by decide +kernel
theorem d_Mod_many_33 : decode b_Mod_many 33 = .ok (.goto (-29), 3) := by decide +kernel
theorem d_Mod_many_36 : decode b_Mod_many 36 = .ok (.iload_n 2, 1) := by decide +kernel
theorem d_Mod_many_37 : decode b_Mod_many 37 = .ok (.ireturn, 1) := by decide +kernel
theorem d_Mod_feature_0 : decode b_Mod_feature 0 = .ok (.aload_n 0, 1) := by decide +kernel
theorem d_Mod_feature_1 : decode b_Mod_feature 1 = .ok (.iconst 0, 1) := by decide +kernel
theorem d_Mod_feature_2 : decode b_Mod_feature 2 = .ok (.putfield 102, 3) := by decide +kernel
theorem d_Mod_feature_5 : decode b_Mod_feature 5 = .ok (.aload_n 0, 1) := by decide +kernel
theorem d_Mod_feature_6 : decode b_Mod_feature 6 = .ok (.iload_n 1, 1) := by decide +kernel
theorem d_Mod_feature_7 : decode b_Mod_feature 7 = .ok (.invokevirtual 118, 3) := by decide +kernel
theorem d_Mod_feature_10 : decode b_Mod_feature 10 = .ok (.ifCond .eq 54, 3) := by decide +kernel
theorem d_Mod_feature_13 : decode b_Mod_feature 13 = .ok (.iload_n 2, 1) := by decide +kernel
theorem d_Mod_feature_14 : decode b_Mod_feature 14 = .ok (.ifCond .lt 50, 3) := by decide +kernel
theorem d_Mod_feature_17 : decode b_Mod_feature 17 = .ok (.iload_n 2, 1) := by decide +kernel
theorem d_Mod_feature_18 : decode b_Mod_feature 18 = .ok (.bipush 32, 2) := by decide +kernel
theorem d_Mod_feature_20 : decode b_Mod_feature 20 = .ok (.if_icmp .ge 44, 3) := by decide +kernel
theorem d_Mod_feature_23 : decode b_Mod_feature 23 = .ok (.iload 4, 2) := by decide +kernel
theorem d_Mod_feature_25 : decode b_Mod_feature 25 = .ok (.ifCond .lt 39, 3) := by decide +kernel
theorem d_Mod_feature_28 : decode b_Mod_feature 28 = .ok (.iload 4, 2) := by decide +kernel
theorem d_Mod_feature_30 : decode b_Mod_feature 30 = .ok (.bipush 8, 2) := by decide +kernel
theorem d_Mod_feature_32 : decode b_Mod_feature 32 = .ok (.if_icmp .ge 32, 3) := by decide +kernel
theorem d_Mod_feature_35 : decode b_Mod_feature 35 = .ok (.aload_n 0, 1) := by decide +kernel
theorem d_Mod_feature_36 : decode b_Mod_feature 36 = .ok (.getfield 111, 3) := by decide +kernel
theorem d_Mod_feature_39 : decode b_Mod_feature 39 = .ok (.bipush 60, 2) := by decide +kernel
theorem d_Mod_feature_41 : decode b_Mod_feature 41 = .ok (.if_icmp .eq 23, 3) := by decide +kernel
theorem d_Mod_feature_44 : decode b_Mod_feature 44 = .ok (.aload_n 0, 1) := by decide +kernel
theorem d_Mod_feature_45 : decode b_Mod_feature 45 = .ok (.iload_n 1, 1) := by decide +kernel
theorem d_Mod_feature_46 : decode b_Mod_feature 46 = .ok (.invokevirtual 122, 3) := by decide +kernel
theorem d_Mod_feature_49 : decode b_Mod_feature 49 = .ok (.bipush 10, 2) := by decide +kernel
theorem d_Mod_feature_51 : decode b_Mod_feature 51 = .ok (.if_icmp .eq 13, 3) := by decide +kernel
theorem d_Mod_feature_54 : decode b_Mod_feature 54 = .ok (.aload_n 0, 1) := by decide +kernel
theorem d_Mod_feature_55 : decode b_Mod_feature 55 = .ok (.iload_n 1, 1) := by decide +kernel
theorem d_Mod_feature_56 : decode b_Mod_feature 56 = .ok (.iload_n 2, 1) := by decide +kernel
theorem d_Mod_feature_57 : decode b_Mod_feature 57 = .ok (.invokevirtual 126, 3) := by decide +kernel
theorem d_Mod_feature_60 : decode b_Mod_feature 60 = .ok (.iconst (-1), 1) := by decide +kernel
theorem d_Mod_feature_61 : decode b_Mod_feature 61 = .ok (.if_icmp .eq 5, 3) := by decide +kernel
theorem d_Mod_feature_64 : decode b_Mod_feature 64 = .ok (.iconst (-1), 1) := by decide +kernel
theorem d_Mod_feature_65 : decode b_Mod_feature 65 = .ok (.ireturn, 1) := by decide +kernel
theorem d_Mod_feature_66 : decode b_Mod_feature 66 = .ok (.aload_n 0, 1) := by decide +kernel
theorem d_Mod_feature_67 : decode b_Mod_feature 67 = .ok (.getfield 19, 3) := by decide +kernel
theorem d_Mod_feature_70 : decode b_Mod_feature 70 = .ok (.aload_n 0, 1) := by decide +kernel
theorem d_Mod_feature_71 : decode b_Mod_feature 71 = .ok (.getfield 111, 3) := by decide +kernel
theorem d_Mod_feature_74 : decode b_Mod_feature 74 = .ok (.iload_n 1, 1) := by decide +kernel
theorem d_Mod_feature_75 : decode b_Mod_feature 75 = .ok (.iastore, 1) := by decide +kernel
theorem d_Mod_feature_76 : decode b_Mod_feature 76 = .ok (.aload_n 0, 1) := by decide +kernel
theorem d_Mod_feature_77 : decode b_Mod_feature 77 = .ok (.getfield 23, 3) := by decide +kernel
theorem d_Mod_feature_80 : decode b_Mod_feature 80 = .ok (.aload_n 0, 1) := by decide +kernel
theorem d_Mod_feature_81 : decode b_Mod_feature 81 = .ok (.getfield 111, 3) := by decide +kernel
theorem d_Mod_feature_84 : decode b_Mod_feature 84 = .ok (.iload_n 2, 1) := by decide +kernel
theorem d_Mod_feature_85 : decode b_Mod_feature 85 = .ok (.iastore, 1) := by decide +kernel
theorem d_Mod_feature_86 : decode b_Mod_feature 86 = .ok (.aload_n 0, 1) := by decide +kernel
theorem d_Mod_feature_87 : decode b_Mod_feature 87 = .ok (.getfield 26, 3) := by decide +kernel
theorem d_Mod_feature_90 : decode b_Mod_feature 90 = .ok (.aload_n 0, 1) := by decide +kernel
theorem d_Mod_feature_91 : decode b_Mod_feature 91 = .ok (.getfield 111, 3) := by decide +kernel
theorem d_Mod_feature_94 : decode b_Mod_feature 94 = .ok (.iload 4, 2) := by decide +kernel
theorem d_Mod_feature_96 : decode b_Mod_feature 96 = .ok (.iastore, 1) := by decide +kernel
theorem d_Mod_feature_97 : decode b_Mod_feature 97 = .ok (.aload_n 0, 1) := by decide +kernel
theorem d_Mod_feature_98 : decode b_Mod_feature 98 = .ok (.getfield 29, 3) := by decide +kernel
theorem d_Mod_feature_101 : decode b_Mod_feature 101 = .ok (.aload_n 0, 1) := by decide +kernel
theorem d_Mod_feature_102 : decode b_Mod_feature 102 = .ok (.getfield 111, 3) := by decide +kernel
theorem d_Mod_feature_105 : decode b_Mod_feature 105 = .ok (.iload_n 3, 1) := by decide +kernel
theorem d_Mod_feature_106 : decode b_Mod_feature 106 = .ok (.bastore, 1) := by decide +kernel
theorem d_Mod_feature_107 : decode b_Mod_feature 107 = .ok (.aload_n 0, 1) := by decide +kernel
theorem d_Mod_feature_108 : decode b_Mod_feature 108 = .ok (.dup, 1) := by decide +kernel
theorem d_Mod_feature_109 : decode b_Mod_feature 109 = .ok (.getfield 111, 3) := by decide +kernel
theorem d_Mod_feature_112 : decode b_Mod_feature 112 = .ok (.iconst 1, 1) := by decide +kernel
theorem d_Mod_feature_113 : decode b_Mod_feature 113 = .ok (.iadd, 1) := by decide +kernel
theorem d_Mod_feature_114 : decode b_Mod_feature 114 = .ok (.putfield 111, 3) := by decide +kernel
theorem d_Mod_feature_117 : decode b_Mod_feature 117 = .ok (.aload_n 0, 1) := by decide +kernel
theorem d_Mod_feature_118 : decode b_Mod_feature 118 = .ok (.iconst 1, 1) := by decide +kernel
theorem d_Mod_feature_119 : decode b_Mod_feature 119 = .ok (.putfield 114, 3) := by decide +kernel
theorem d_Mod_feature_122 : decode b_Mod_feature 122 = .ok (.aload_n 0, 1) := by decide +kernel
theorem d_Mod_feature_123 : decode b_Mod_feature 123 = .ok (.getfield 111, 3) := by decide +kernel
theorem d_Mod_feature_126 : decode b_Mod_feature 126 = .ok (.iconst 1, 1) := by decide +kernel
theorem d_Mod_feature_127 : decode b_Mod_feature 127 = .ok (.isub, 1) := by decide +kernel
theorem d_Mod_feature_128 : decode b_Mod_feature 128 = .ok (.ireturn, 1) := by decide +kernel
theorem d_Mod_root_0 : decode b_Mod_root 0 = .ok (.aload_n 0, 1) := by decide +kernel
theorem d_Mod_root_1 : decode b_Mod_root 1 = .ok (.iconst 0, 1) := by decide +kernel
theorem d_Mod_root_2 : decode b_Mod_root 2 = .ok (.putfield 102, 3) := by decide +kernel
theorem d_Mod_root_5 : decode b_Mod_root 5 = .ok (.aload_n 0, 1) := by decide +kernel
theorem d_Mod_root_6 : decode b_Mod_root 6 = .ok (.iload_n 1, 1) := by decide +kernel
theorem d_Mod_root_7 : decode b_Mod_root 7 = .ok (.invokevirtual 118, 3) := by decide +kernel
theorem d_Mod_root_10 : decode b_Mod_root 10 = .ok (.ifCond .eq 12, 3) := by decide +kernel
theorem d_Mod_root_13 : decode b_Mod_root 13 = .ok (.aload_n 0, 1) := by decide +kernel
theorem d_Mod_root_14 : decode b_Mod_root 14 = .ok (.getfield 13, 3) := by decide +kernel
theorem d_Mod_root_17 : decode b_Mod_root 17 = .ok (.iload_n 1, 1) := by decide +kernel
theorem d_Mod_root_18 : decode b_Mod_root 18 = .ok (.baload, 1) := by decide +kernel
theorem d_Mod_root_19 : decode b_Mod_root 19 = .ok (.ifCond .eq 5, 3) := by decide +kernel
theorem d_Mod_root_22 : decode b_Mod_root 22 = .ok (.iconst 0, 1) := by decide +kernel
theorem d_Mod_root_23 : decode b_Mod_root 23 = .ok (.ireturn, 1) := by decide +kernel
theorem d_Mod_root_24 : decode b_Mod_root 24 = .ok (.aload_n 0, 1) := by decide +kernel
theorem d_Mod_root_25 : decode b_Mod_root 25 = .ok (.getfield 13, 3) := by decide +kernel
theorem d_Mod_root_28 : decode b_Mod_root 28 = .ok (.iload_n 1, 1) := by decide +kernel
theorem d_Mod_root_29 : decode b_Mod_root 29 = .ok (.iconst 1, 1) := by decide +kernel
theorem d_Mod_root_30 : decode b_Mod_root 30 = .ok (.bastore, 1) := by decide +kernel
theorem d_Mod_root_31 : decode b_Mod_root 31 = .ok (.aload_n 0, 1) := by decide +kernel
theorem d_Mod_root_32 : decode b_Mod_root 32 = .ok (.getfield 16, 3) := by decide +kernel
theorem d_Mod_root_35 : decode b_Mod_root 35 = .ok (.iload_n 1, 1) := by decide +kernel
theorem d_Mod_root_36 : decode b_Mod_root 36 = .ok (.iload_n 2, 1) := by decide +kernel
theorem d_Mod_root_37 : decode b_Mod_root 37 = .ok (.bastore, 1) := by decide +kernel
theorem d_Mod_root_38 : decode b_Mod_root 38 = .ok (.aload_n 0, 1) := by decide +kernel
theorem d_Mod_root_39 : decode b_Mod_root 39 = .ok (.iconst 1, 1) := by decide +kernel
theorem d_Mod_root_40 : decode b_Mod_root 40 = .ok (.putfield 114, 3) := by decide +kernel
theorem d_Mod_root_43 : decode b_Mod_root 43 = .ok (.iconst 1, 1) := by decide +kernel
theorem d_Mod_root_44 : decode b_Mod_root 44 = .ok (.ireturn, 1) := by decide +kernel
theorem d_Mod_user_0 : decode b_Mod_user 0 = .ok (.aload_n 0, 1) := by decide +kernel
theorem d_Mod_user_1 : decode b_Mod_user 1 = .ok (.iconst 0, 1) := by decide +kernel
theorem d_Mod_user_2 : decode b_Mod_user 2 = .ok (.putfield 102, 3) := by decide +kernel
theorem d_Mod_user_5 : decode b_Mod_user 5 = .ok (.aload_n 0, 1) := by decide +kernel
theorem d_Mod_user_6 : decode b_Mod_user 6 = .ok (.iload_n 1, 1) := by decide +kernel
theorem d_Mod_user_7 : decode b_Mod_user 7 = .ok (.invokevirtual 118, 3) := by decide +kernel
theorem d_Mod_user_10 : decode b_Mod_user 10 = .ok (.ifCond .eq 20, 3) := by decide +kernel
theorem d_Mod_user_13 : decode b_Mod_user 13 = .ok (.aload_n 0, 1) := by decide +kernel
theorem d_Mod_user_14 : decode b_Mod_user 14 = .ok (.iload_n 2, 1) := by decide +kernel
theorem d_Mod_user_15 : decode b_Mod_user 15 = .ok (.invokevirtual 118, 3) := by decide +kernel
theorem d_Mod_user_18 : decode b_Mod_user 18 = .ok (.ifCond .eq 12, 3) := by decide +kernel
theorem d_Mod_user_21 : decode b_Mod_user 21 = .ok (.aload_n 0, 1) := by decide +kernel
theorem d_Mod_user_22 : decode b_Mod_user 22 = .ok (.getfield 108, 3) := by decide +kernel
theorem d_Mod_user_25 : decode b_Mod_user 25 = .ok (.bipush 40, 2) := by decide +kernel
theorem d_Mod_user_27 : decode b_Mod_user 27 = .ok (.if_icmp .ne 5, 3) := by decide +kernel
theorem d_Mod_user_30 : decode b_Mod_user 30 = .ok (.iconst (-1), 1) := by decide +kernel
theorem d_Mod_user_31 : decode b_Mod_user 31 = .ok (.ireturn, 1) := by decide +kernel
theorem d_Mod_user_32 : decode b_Mod_user 32 = .ok (.aload_n 0, 1) := by decide +kernel
theorem d_Mod_user_33 : decode b_Mod_user 33 = .ok (.getfield 32, 3) := by decide +kernel
theorem d_Mod_user_36 : decode b_Mod_user 36 = .ok (.aload_n 0, 1) := by decide +kernel
theorem d_Mod_user_37 : decode b_Mod_user 37 = .ok (.getfield 108, 3) := by decide +kernel
theorem d_Mod_user_40 : decode b_Mod_user 40 = .ok (.iload_n 1, 1) := by decide +kernel
theorem d_Mod_user_41 : decode b_Mod_user 41 = .ok (.iastore, 1) := by decide +kernel
theorem d_Mod_user_42 : decode b_Mod_user 42 = .ok (.aload_n 0, 1) := by decide +kernel
theorem d_Mod_user_43 : decode b_Mod_user 43 = .ok (.getfield 35, 3) := by decide +kernel
theorem d_Mod_user_46 : decode b_Mod_user 46 = .ok (.aload_n 0, 1) := by decide +kernel
theorem d_Mod_user_47 : decode b_Mod_user 47 = .ok (.getfield 108, 3) := by decide +kernel
theorem d_Mod_user_50 : decode b_Mod_user 50 = .ok (.iload_n 2, 1) := by decide +kernel
theorem d_Mod_user_51 : decode b_Mod_user 51 = .ok (.iastore, 1) := by decide +kernel
theorem d_Mod_user_52 : decode b_Mod_user 52 = .ok (.aload_n 0, 1) := by decide +kernel
theorem d_Mod_user_53 : decode b_Mod_user 53 = .ok (.getfield 41, 3) := by decide +kernel
theorem d_Mod_user_56 : decode b_Mod_user 56 = .ok (.aload_n 0, 1) := by decide +kernel
theorem d_Mod_user_57 : decode b_Mod_user 57 = .ok (.getfield 108, 3) := by decide +kernel
theorem d_Mod_user_60 : decode b_Mod_user 60 = .ok (.iload_n 3, 1) := by decide +kernel
theorem d_Mod_user_61 : decode b_Mod_user 61 = .ok (.bastore, 1) := by decide +kernel
theorem d_Mod_user_62 : decode b_Mod_user 62 = .ok (.aload_n 0, 1) := by decide +kernel
theorem d_Mod_user_63 : decode b_Mod_user 63 = .ok (.getfield 44, 3) := by decide +kernel
theorem d_Mod_user_66 : decode b_Mod_user 66 = .ok (.aload_n 0, 1) := by decide +kernel
theorem d_Mod_user_67 : decode b_Mod_user 67 = .ok (.getfield 108, 3) := by decide +kernel
theorem d_Mod_user_70 : decode b_Mod_user 70 = .ok (.iload 4, 2) := by decide +kernel
theorem d_Mod_user_72 : decode b_Mod_user 72 = .ok (.bastore, 1) := by decide +kernel
theorem d_Mod_user_73 : decode b_Mod_user 73 = .ok (.aload_n 0, 1) := by decide +kernel
theorem d_Mod_user_74 : decode b_Mod_user 74 = .ok (.getfield 47, 3) := by decide +kernel
theorem d_Mod_user_77 : decode b_Mod_user 77 = .ok (.aload_n 0, 1) := by decide +kernel
theorem d_Mod_user_78 : decode b_Mod_user 78 = .ok (.getfield 108, 3) := by decide +kernel
theorem d_Mod_user_81 : decode b_Mod_user 81 = .ok (.iload 5, 2) := by decide +kernel
theorem d_Mod_user_83 : decode b_Mod_user 83 = .ok (.bastore, 1) := by decide +kernel
theorem d_Mod_user_84 : decode b_Mod_user 84 = .ok (.aload_n 0, 1) := by decide +kernel
theorem d_Mod_user_85 : decode b_Mod_user 85 = .ok (.getfield 38, 3) := by decide +kernel
theorem d_Mod_user_88 : decode b_Mod_user 88 = .ok (.aload_n 0, 1) := by decide +kernel
theorem d_Mod_user_89 : decode b_Mod_user 89 = .ok (.getfield 108, 3) := by decide +kernel
theorem d_Mod_user_92 : decode b_Mod_user 92 = .ok (.iload 6, 2) := by decide +kernel
theorem d_Mod_user_94 : decode b_Mod_user 94 = .ok (.iastore, 1) := by decide +kernel
theorem d_Mod_user_95 : decode b_Mod_user 95 = .ok (.aload_n 0, 1) := by decide +kernel
theorem d_Mod_user_96 : decode b_Mod_user 96 = .ok (.dup, 1) := by decide +kernel
theorem d_Mod_user_97 : decode b_Mod_user 97 = .ok (.getfield 108, 3) := by decide +kernel
theorem d_Mod_user_100 : decode b_Mod_user 100 = .ok (.iconst 1, 1) := by decide +kernel
theorem d_Mod_user_101 : decode b_Mod_user 101 = .ok (.iadd, 1) := by decide +kernel
theorem d_Mod_user_102 : decode b_Mod_user 102 = .ok (.putfield 108, 3) := by decide +kernel
theorem d_Mod_user_105 : decode b_Mod_user 105 = .ok (.aload_n 0, 1) := by decide +kernel
theorem d_Mod_user_106 : decode b_Mod_user 106 = .ok (.iconst 1, 1) := by decide +kernel
theorem d_Mod_user_107 : decode b_Mod_user 107 = .ok (.putfield 114, 3) := by decide +kernel
theorem d_Mod_user_110 : decode b_Mod_user 110 = .ok (.aload_n 0, 1) := by decide +kernel
theorem d_Mod_user_111 : decode b_Mod_user 111 = .ok (.getfield 108, 3) := by decide +kernel
theorem d_Mod_user_114 : decode b_Mod_user 114 = .ok (.iconst 1, 1) := by decide +kernel
theorem d_Mod_user_115 : decode b_Mod_user 115 = .ok (.isub, 1) := by decide +kernel
theorem d_Mod_user_116 : decode b_Mod_user 116 = .ok (.ireturn, 1) := by decide +kernel
theorem d_Mod_asking_0 : decode b_Mod_asking 0 = .ok (.iconst (-1), 1) := by decide +kernel
theorem d_Mod_asking_1 : decode b_Mod_asking 1 = .ok (.istore 4, 2) := by decide +kernel
theorem d_Mod_asking_3 : decode b_Mod_asking 3 = .ok (.iconst 0, 1) := by decide +kernel
theorem d_Mod_asking_4 : decode b_Mod_asking 4 = .ok (.istore 5, 2) := by decide +kernel
theorem d_Mod_asking_6 : decode b_Mod_asking 6 = .ok (.iload 5, 2) := by decide +kernel
theorem d_Mod_asking_8 : decode b_Mod_asking 8 = .ok (.iload_n 3, 1) := by decide +kernel
theorem d_Mod_asking_9 : decode b_Mod_asking 9 = .ok (.if_icmp .ge 40, 3) := by decide +kernel
theorem d_Mod_asking_12 : decode b_Mod_asking 12 = .ok (.aload_n 0, 1) := by decide +kernel
theorem d_Mod_asking_13 : decode b_Mod_asking 13 = .ok (.getfield 50, 3) := by decide +kernel
theorem d_Mod_asking_16 : decode b_Mod_asking 16 = .ok (.iload 5, 2) := by decide +kernel
theorem d_Mod_asking_18 : decode b_Mod_asking 18 = .ok (.iaload, 1) := by decide +kernel
theorem d_Mod_asking_19 : decode b_Mod_asking 19 = .ok (.iload_n 1, 1) := by decide +kernel
theorem d_Mod_asking_20 : decode b_Mod_asking 20 = .ok (.if_icmp .ne 19, 3) := by decide +kernel
theorem d_Mod_asking_23 : decode b_Mod_asking 23 = .ok (.aload_n 0, 1) := by decide +kernel
theorem d_Mod_asking_24 : decode b_Mod_asking 24 = .ok (.getfield 53, 3) := by decide +kernel
theorem d_Mod_asking_27 : decode b_Mod_asking 27 = .ok (.iload 5, 2) := by decide +kernel
theorem d_Mod_asking_29 : decode b_Mod_asking 29 = .ok (.iaload, 1) := by decide +kernel
theorem d_Mod_asking_30 : decode b_Mod_asking 30 = .ok (.iload_n 2, 1) := by decide +kernel
theorem d_Mod_asking_31 : decode b_Mod_asking 31 = .ok (.if_icmp .ne 8, 3) := by decide +kernel
theorem d_Mod_asking_34 : decode b_Mod_asking 34 = .ok (.iload 5, 2) := by decide +kernel
theorem d_Mod_asking_36 : decode b_Mod_asking 36 = .ok (.goto 5, 3) := by decide +kernel
theorem d_Mod_asking_39 : decode b_Mod_asking 39 = .ok (.iload 4, 2) := by decide +kernel
theorem d_Mod_asking_41 : decode b_Mod_asking 41 = .ok (.istore 4, 2) := by decide +kernel
theorem d_Mod_asking_43 : decode b_Mod_asking 43 = .ok (.iinc 5 1, 3) := by decide +kernel
theorem d_Mod_asking_46 : decode b_Mod_asking 46 = .ok (.goto (-40), 3) := by decide +kernel
theorem d_Mod_asking_49 : decode b_Mod_asking 49 = .ok (.iload 4, 2) := by decide +kernel
theorem d_Mod_asking_51 : decode b_Mod_asking 51 = .ok (.ireturn, 1) := by decide +kernel
end
section
theorem d_Mod_asks_0 : decode b_Mod_asks 0 = .ok (.aload_n 0, 1) := by decide +kernel
theorem d_Mod_asks_1 : decode b_Mod_asks 1 = .ok (.iconst 0, 1) := by decide +kernel
theorem d_Mod_asks_2 : decode b_Mod_asks 2 = .ok (.putfield 102, 3) := by decide +kernel
theorem d_Mod_asks_5 : decode b_Mod_asks 5 = .ok (.aload_n 0, 1) := by decide +kernel
theorem d_Mod_asks_6 : decode b_Mod_asks 6 = .ok (.iload_n 1, 1) := by decide +kernel
theorem d_Mod_asks_7 : decode b_Mod_asks 7 = .ok (.invokevirtual 130, 3) := by decide +kernel
theorem d_Mod_asks_10 : decode b_Mod_asks 10 = .ok (.ifCond .ne 5, 3) := by decide +kernel
theorem d_Mod_asks_13 : decode b_Mod_asks 13 = .ok (.iconst (-1), 1) := by decide +kernel
theorem d_Mod_asks_14 : decode b_Mod_asks 14 = .ok (.ireturn, 1) := by decide +kernel
theorem d_Mod_asks_15 : decode b_Mod_asks 15 = .ok (.aload_n 0, 1) := by decide +kernel
theorem d_Mod_asks_16 : decode b_Mod_asks 16 = .ok (.aload_n 0, 1) := by decide +kernel
theorem d_Mod_asks_17 : decode b_Mod_asks 17 = .ok (.getfield 35, 3) := by decide +kernel
theorem d_Mod_asks_20 : decode b_Mod_asks 20 = .ok (.iload_n 1, 1) := by decide +kernel
theorem d_Mod_asks_21 : decode b_Mod_asks 21 = .ok (.iaload, 1) := by decide +kernel
theorem d_Mod_asks_22 : decode b_Mod_asks 22 = .ok (.iload_n 2, 1) := by decide +kernel
theorem d_Mod_asks_23 : decode b_Mod_asks 23 = .ok (.invokevirtual 126, 3) := by decide +kernel
theorem d_Mod_asks_26 : decode b_Mod_asks 26 = .ok (.istore_n 3, 1) := by decide +kernel
theorem d_Mod_asks_27 : decode b_Mod_asks 27 = .ok (.iload_n 3, 1) := by decide +kernel
theorem d_Mod_asks_28 : decode b_Mod_asks 28 = .ok (.iconst (-1), 1) := by decide +kernel
theorem d_Mod_asks_29 : decode b_Mod_asks 29 = .ok (.if_icmp .ne 6, 3) := by decide +kernel
theorem d_Mod_asks_32 : decode b_Mod_asks 32 = .ok (.bipush (-2), 2) := by decide +kernel
theorem d_Mod_asks_34 : decode b_Mod_asks 34 = .ok (.ireturn, 1) := by decide +kernel
theorem d_Mod_asks_35 : decode b_Mod_asks 35 = .ok (.aload_n 0, 1) := by decide +kernel
theorem d_Mod_asks_36 : decode b_Mod_asks 36 = .ok (.iload_n 1, 1) := by decide +kernel
theorem d_Mod_asks_37 : decode b_Mod_asks 37 = .ok (.iload_n 3, 1) := by decide +kernel
theorem d_Mod_asks_38 : decode b_Mod_asks 38 = .ok (.aload_n 0, 1) := by decide +kernel
theorem d_Mod_asks_39 : decode b_Mod_asks 39 = .ok (.getfield 133, 3) := by decide +kernel
theorem d_Mod_asks_42 : decode b_Mod_asks 42 = .ok (.invokevirtual 136, 3) := by decide +kernel
theorem d_Mod_asks_45 : decode b_Mod_asks 45 = .ok (.iconst (-1), 1) := by decide +kernel
theorem d_Mod_asks_46 : decode b_Mod_asks 46 = .ok (.if_icmp .eq 6, 3) := by decide +kernel
theorem d_Mod_asks_49 : decode b_Mod_asks 49 = .ok (.bipush (-3), 2) := by decide +kernel
theorem d_Mod_asks_51 : decode b_Mod_asks 51 = .ok (.ireturn, 1) := by decide +kernel
theorem d_Mod_asks_52 : decode b_Mod_asks 52 = .ok (.aload_n 0, 1) := by decide +kernel
theorem d_Mod_asks_53 : decode b_Mod_asks 53 = .ok (.getfield 50, 3) := by decide +kernel
theorem d_Mod_asks_56 : decode b_Mod_asks 56 = .ok (.aload_n 0, 1) := by decide +kernel
theorem d_Mod_asks_57 : decode b_Mod_asks 57 = .ok (.getfield 133, 3) := by decide +kernel
theorem d_Mod_asks_60 : decode b_Mod_asks 60 = .ok (.iload_n 1, 1) := by decide +kernel
theorem d_Mod_asks_61 : decode b_Mod_asks 61 = .ok (.iastore, 1) := by decide +kernel
theorem d_Mod_asks_62 : decode b_Mod_asks 62 = .ok (.aload_n 0, 1) := by decide +kernel
theorem d_Mod_asks_63 : decode b_Mod_asks 63 = .ok (.getfield 53, 3) := by decide +kernel
theorem d_Mod_asks_66 : decode b_Mod_asks 66 = .ok (.aload_n 0, 1) := by decide +kernel
theorem d_Mod_asks_67 : decode b_Mod_asks 67 = .ok (.getfield 133, 3) := by decide +kernel
theorem d_Mod_asks_70 : decode b_Mod_asks 70 = .ok (.iload_n 3, 1) := by decide +kernel
theorem d_Mod_asks_71 : decode b_Mod_asks 71 = .ok (.iastore, 1) := by decide +kernel
theorem d_Mod_asks_72 : decode b_Mod_asks 72 = .ok (.aload_n 0, 1) := by decide +kernel
theorem d_Mod_asks_73 : decode b_Mod_asks 73 = .ok (.dup, 1) := by decide +kernel
theorem d_Mod_asks_74 : decode b_Mod_asks 74 = .ok (.getfield 133, 3) := by decide +kernel
theorem d_Mod_asks_77 : decode b_Mod_asks 77 = .ok (.iconst 1, 1) := by decide +kernel
theorem d_Mod_asks_78 : decode b_Mod_asks 78 = .ok (.iadd, 1) := by decide +kernel
theorem d_Mod_asks_79 : decode b_Mod_asks 79 = .ok (.putfield 133, 3) := by decide +kernel
theorem d_Mod_asks_82 : decode b_Mod_asks 82 = .ok (.aload_n 0, 1) := by decide +kernel
theorem d_Mod_asks_83 : decode b_Mod_asks 83 = .ok (.iconst 1, 1) := by decide +kernel
theorem d_Mod_asks_84 : decode b_Mod_asks 84 = .ok (.putfield 114, 3) := by decide +kernel
theorem d_Mod_asks_87 : decode b_Mod_asks 87 = .ok (.iconst 1, 1) := by decide +kernel
theorem d_Mod_asks_88 : decode b_Mod_asks 88 = .ok (.ireturn, 1) := by decide +kernel
theorem d_Mod_turn_0 : decode b_Mod_turn 0 = .ok (.aload_n 0, 1) := by decide +kernel
theorem d_Mod_turn_1 : decode b_Mod_turn 1 = .ok (.iconst 0, 1) := by decide +kernel
theorem d_Mod_turn_2 : decode b_Mod_turn 2 = .ok (.putfield 102, 3) := by decide +kernel
theorem d_Mod_turn_5 : decode b_Mod_turn 5 = .ok (.aload_n 0, 1) := by decide +kernel
theorem d_Mod_turn_6 : decode b_Mod_turn 6 = .ok (.iload_n 1, 1) := by decide +kernel
theorem d_Mod_turn_7 : decode b_Mod_turn 7 = .ok (.invokevirtual 140, 3) := by decide +kernel
theorem d_Mod_turn_10 : decode b_Mod_turn 10 = .ok (.ifCond .eq 21, 3) := by decide +kernel
theorem d_Mod_turn_13 : decode b_Mod_turn 13 = .ok (.iload_n 2, 1) := by decide +kernel
theorem d_Mod_turn_14 : decode b_Mod_turn 14 = .ok (.ifCond .lt 17, 3) := by decide +kernel
theorem d_Mod_turn_17 : decode b_Mod_turn 17 = .ok (.iload_n 2, 1) := by decide +kernel
theorem d_Mod_turn_18 : decode b_Mod_turn 18 = .ok (.iconst 3, 1) := by decide +kernel
theorem d_Mod_turn_19 : decode b_Mod_turn 19 = .ok (.if_icmp .gt 12, 3) := by decide +kernel
theorem d_Mod_turn_22 : decode b_Mod_turn 22 = .ok (.aload_n 0, 1) := by decide +kernel
theorem d_Mod_turn_23 : decode b_Mod_turn 23 = .ok (.getfield 143, 3) := by decide +kernel
theorem d_Mod_turn_26 : decode b_Mod_turn 26 = .ok (.bipush 60, 2) := by decide +kernel
theorem d_Mod_turn_28 : decode b_Mod_turn 28 = .ok (.if_icmp .ne 5, 3) := by decide +kernel
theorem d_Mod_turn_31 : decode b_Mod_turn 31 = .ok (.iconst (-1), 1) := by decide +kernel
theorem d_Mod_turn_32 : decode b_Mod_turn 32 = .ok (.ireturn, 1) := by decide +kernel
theorem d_Mod_turn_33 : decode b_Mod_turn 33 = .ok (.aload_n 0, 1) := by decide +kernel
theorem d_Mod_turn_34 : decode b_Mod_turn 34 = .ok (.getfield 19, 3) := by decide +kernel
theorem d_Mod_turn_37 : decode b_Mod_turn 37 = .ok (.iload_n 1, 1) := by decide +kernel
theorem d_Mod_turn_38 : decode b_Mod_turn 38 = .ok (.iaload, 1) := by decide +kernel
theorem d_Mod_turn_39 : decode b_Mod_turn 39 = .ok (.istore 5, 2) := by decide +kernel
theorem d_Mod_turn_41 : decode b_Mod_turn 41 = .ok (.iload_n 2, 1) := by decide +kernel
theorem d_Mod_turn_42 : decode b_Mod_turn 42 = .ok (.ifCond .le 22, 3) := by decide +kernel
theorem d_Mod_turn_45 : decode b_Mod_turn 45 = .ok (.aload_n 0, 1) := by decide +kernel
theorem d_Mod_turn_46 : decode b_Mod_turn 46 = .ok (.iload_n 3, 1) := by decide +kernel
theorem d_Mod_turn_47 : decode b_Mod_turn 47 = .ok (.invokevirtual 130, 3) := by decide +kernel
theorem d_Mod_turn_50 : decode b_Mod_turn 50 = .ok (.ifCond .eq 28, 3) := by decide +kernel
theorem d_Mod_turn_53 : decode b_Mod_turn 53 = .ok (.aload_n 0, 1) := by decide +kernel
theorem d_Mod_turn_54 : decode b_Mod_turn 54 = .ok (.getfield 32, 3) := by decide +kernel
theorem d_Mod_turn_57 : decode b_Mod_turn 57 = .ok (.iload_n 3, 1) := by decide +kernel
theorem d_Mod_turn_58 : decode b_Mod_turn 58 = .ok (.iaload, 1) := by decide +kernel
theorem d_Mod_turn_59 : decode b_Mod_turn 59 = .ok (.iload 5, 2) := by decide +kernel
theorem d_Mod_turn_61 : decode b_Mod_turn 61 = .ok (.if_icmp .ne 17, 3) := by decide +kernel
theorem d_Mod_turn_64 : decode b_Mod_turn 64 = .ok (.iload_n 2, 1) := by decide +kernel
theorem d_Mod_turn_65 : decode b_Mod_turn 65 = .ok (.iconst 1, 1) := by decide +kernel
theorem d_Mod_turn_66 : decode b_Mod_turn 66 = .ok (.if_icmp .ne 14, 3) := by decide +kernel
theorem d_Mod_turn_69 : decode b_Mod_turn 69 = .ok (.aload_n 0, 1) := by decide +kernel
theorem d_Mod_turn_70 : decode b_Mod_turn 70 = .ok (.getfield 47, 3) := by decide +kernel
theorem d_Mod_turn_73 : decode b_Mod_turn 73 = .ok (.iload_n 3, 1) := by decide +kernel
theorem d_Mod_turn_74 : decode b_Mod_turn 74 = .ok (.baload, 1) := by decide +kernel
theorem d_Mod_turn_75 : decode b_Mod_turn 75 = .ok (.ifCond .ne 5, 3) := by decide +kernel
theorem d_Mod_turn_78 : decode b_Mod_turn 78 = .ok (.iconst (-1), 1) := by decide +kernel
theorem d_Mod_turn_79 : decode b_Mod_turn 79 = .ok (.ireturn, 1) := by decide +kernel
theorem d_Mod_turn_80 : decode b_Mod_turn 80 = .ok (.iload_n 2, 1) := by decide +kernel
theorem d_Mod_turn_81 : decode b_Mod_turn 81 = .ok (.iconst 1, 1) := by decide +kernel
theorem d_Mod_turn_82 : decode b_Mod_turn 82 = .ok (.if_icmp .ne 7, 3) := by decide +kernel
theorem d_Mod_turn_85 : decode b_Mod_turn 85 = .ok (.iconst (-1), 1) := by decide +kernel
theorem d_Mod_turn_86 : decode b_Mod_turn 86 = .ok (.goto 24, 3) := by decide +kernel
theorem d_Mod_turn_89 : decode b_Mod_turn 89 = .ok (.aload_n 0, 1) := by decide +kernel
theorem d_Mod_turn_90 : decode b_Mod_turn 90 = .ok (.iload_n 2, 1) := by decide +kernel
theorem d_Mod_turn_91 : decode b_Mod_turn 91 = .ok (.ifCond .ne 8, 3) := by decide +kernel
theorem d_Mod_turn_94 : decode b_Mod_turn 94 = .ok (.iload 5, 2) := by decide +kernel
theorem d_Mod_turn_96 : decode b_Mod_turn 96 = .ok (.goto 9, 3) := by decide +kernel
theorem d_Mod_turn_99 : decode b_Mod_turn 99 = .ok (.aload_n 0, 1) := by decide +kernel
theorem d_Mod_turn_100 : decode b_Mod_turn 100 = .ok (.getfield 35, 3) := by decide +kernel
theorem d_Mod_turn_103 : decode b_Mod_turn 103 = .ok (.iload_n 3, 1) := by decide +kernel
theorem d_Mod_turn_104 : decode b_Mod_turn 104 = .ok (.iaload, 1) := by decide +kernel
theorem d_Mod_turn_105 : decode b_Mod_turn 105 = .ok (.iload 4, 2) := by decide +kernel
theorem d_Mod_turn_107 : decode b_Mod_turn 107 = .ok (.invokevirtual 126, 3) := by decide +kernel
theorem d_Mod_turn_110 : decode b_Mod_turn 110 = .ok (.istore 6, 2) := by decide +kernel
theorem d_Mod_turn_112 : decode b_Mod_turn 112 = .ok (.iload_n 2, 1) := by decide +kernel
theorem d_Mod_turn_113 : decode b_Mod_turn 113 = .ok (.iconst 1, 1) := by decide +kernel
theorem d_Mod_turn_114 : decode b_Mod_turn 114 = .ok (.if_icmp .eq 9, 3) := by decide +kernel
theorem d_Mod_turn_117 : decode b_Mod_turn 117 = .ok (.iload 6, 2) := by decide +kernel
theorem d_Mod_turn_119 : decode b_Mod_turn 119 = .ok (.iconst (-1), 1) := by decide +kernel
theorem d_Mod_turn_120 : decode b_Mod_turn 120 = .ok (.if_icmp .eq 13, 3) := by decide +kernel
theorem d_Mod_turn_123 : decode b_Mod_turn 123 = .ok (.iload_n 2, 1) := by decide +kernel
theorem d_Mod_turn_124 : decode b_Mod_turn 124 = .ok (.ifCond .ne 11, 3) := by decide +kernel
theorem d_Mod_turn_127 : decode b_Mod_turn 127 = .ok (.iload 6, 2) := by decide +kernel
theorem d_Mod_turn_129 : decode b_Mod_turn 129 = .ok (.iload_n 1, 1) := by decide +kernel
theorem d_Mod_turn_130 : decode b_Mod_turn 130 = .ok (.if_icmp .ne 5, 3) := by decide +kernel
theorem d_Mod_turn_133 : decode b_Mod_turn 133 = .ok (.iconst (-1), 1) := by decide +kernel
theorem d_Mod_turn_134 : decode b_Mod_turn 134 = .ok (.ireturn, 1) := by decide +kernel
theorem d_Mod_turn_135 : decode b_Mod_turn 135 = .ok (.aload_n 0, 1) := by decide +kernel
theorem d_Mod_turn_136 : decode b_Mod_turn 136 = .ok (.getfield 56, 3) := by decide +kernel
theorem d_Mod_turn_139 : decode b_Mod_turn 139 = .ok (.aload_n 0, 1) := by decide +kernel
theorem d_Mod_turn_140 : decode b_Mod_turn 140 = .ok (.getfield 143, 3) := by decide +kernel
theorem d_Mod_turn_143 : decode b_Mod_turn 143 = .ok (.iload_n 1, 1) := by decide +kernel
theorem d_Mod_turn_144 : decode b_Mod_turn 144 = .ok (.iastore, 1) := by decide +kernel
theorem d_Mod_turn_145 : decode b_Mod_turn 145 = .ok (.aload_n 0, 1) := by decide +kernel
theorem d_Mod_turn_146 : decode b_Mod_turn 146 = .ok (.getfield 59, 3) := by decide +kernel
theorem d_Mod_turn_149 : decode b_Mod_turn 149 = .ok (.aload_n 0, 1) := by decide +kernel
theorem d_Mod_turn_150 : decode b_Mod_turn 150 = .ok (.getfield 143, 3) := by decide +kernel
theorem d_Mod_turn_153 : decode b_Mod_turn 153 = .ok (.iload_n 2, 1) := by decide +kernel
theorem d_Mod_turn_154 : decode b_Mod_turn 154 = .ok (.iastore, 1) := by decide +kernel
theorem d_Mod_turn_155 : decode b_Mod_turn 155 = .ok (.aload_n 0, 1) := by decide +kernel
theorem d_Mod_turn_156 : decode b_Mod_turn 156 = .ok (.getfield 62, 3) := by decide +kernel
theorem d_Mod_turn_159 : decode b_Mod_turn 159 = .ok (.aload_n 0, 1) := by decide +kernel
theorem d_Mod_turn_160 : decode b_Mod_turn 160 = .ok (.getfield 143, 3) := by decide +kernel
theorem d_Mod_turn_163 : decode b_Mod_turn 163 = .ok (.iload_n 2, 1) := by decide +kernel
theorem d_Mod_turn_164 : decode b_Mod_turn 164 = .ok (.ifCond .ne 7, 3) := by decide +kernel
theorem d_Mod_turn_167 : decode b_Mod_turn 167 = .ok (.iconst (-1), 1) := by decide +kernel
theorem d_Mod_turn_168 : decode b_Mod_turn 168 = .ok (.goto 4, 3) := by decide +kernel
theorem d_Mod_turn_171 : decode b_Mod_turn 171 = .ok (.iload_n 3, 1) := by decide +kernel
theorem d_Mod_turn_172 : decode b_Mod_turn 172 = .ok (.iastore, 1) := by decide +kernel
theorem d_Mod_turn_173 : decode b_Mod_turn 173 = .ok (.aload_n 0, 1) := by decide +kernel
theorem d_Mod_turn_174 : decode b_Mod_turn 174 = .ok (.getfield 65, 3) := by decide +kernel
theorem d_Mod_turn_177 : decode b_Mod_turn 177 = .ok (.aload_n 0, 1) := by decide +kernel
theorem d_Mod_turn_178 : decode b_Mod_turn 178 = .ok (.getfield 143, 3) := by decide +kernel
theorem d_Mod_turn_181 : decode b_Mod_turn 181 = .ok (.iload 6, 2) := by decide +kernel
theorem d_Mod_turn_183 : decode b_Mod_turn 183 = .ok (.iastore, 1) := by decide +kernel
theorem d_Mod_turn_184 : decode b_Mod_turn 184 = .ok (.aload_n 0, 1) := by decide +kernel
theorem d_Mod_turn_185 : decode b_Mod_turn 185 = .ok (.dup, 1) := by decide +kernel
theorem d_Mod_turn_186 : decode b_Mod_turn 186 = .ok (.getfield 143, 3) := by decide +kernel
theorem d_Mod_turn_189 : decode b_Mod_turn 189 = .ok (.iconst 1, 1) := by decide +kernel
theorem d_Mod_turn_190 : decode b_Mod_turn 190 = .ok (.iadd, 1) := by decide +kernel
theorem d_Mod_turn_191 : decode b_Mod_turn 191 = .ok (.putfield 143, 3) := by decide +kernel
theorem d_Mod_turn_194 : decode b_Mod_turn 194 = .ok (.aload_n 0, 1) := by decide +kernel
theorem d_Mod_turn_195 : decode b_Mod_turn 195 = .ok (.iconst 1, 1) := by decide +kernel
theorem d_Mod_turn_196 : decode b_Mod_turn 196 = .ok (.putfield 114, 3) := by decide +kernel
theorem d_Mod_turn_199 : decode b_Mod_turn 199 = .ok (.aload_n 0, 1) := by decide +kernel
theorem d_Mod_turn_200 : decode b_Mod_turn 200 = .ok (.getfield 143, 3) := by decide +kernel
theorem d_Mod_turn_203 : decode b_Mod_turn 203 = .ok (.iconst 1, 1) := by decide +kernel
theorem d_Mod_turn_204 : decode b_Mod_turn 204 = .ok (.isub, 1) := by decide +kernel
theorem d_Mod_turn_205 : decode b_Mod_turn 205 = .ok (.ireturn, 1) := by decide +kernel
theorem d_Mod_isFor_0 : decode b_Mod_isFor 0 = .ok (.aload_n 0, 1) := by decide +kernel
theorem d_Mod_isFor_1 : decode b_Mod_isFor 1 = .ok (.getfield 38, 3) := by decide +kernel
theorem d_Mod_isFor_4 : decode b_Mod_isFor 4 = .ok (.iload_n 1, 1) := by decide +kernel
theorem d_Mod_isFor_5 : decode b_Mod_isFor 5 = .ok (.iaload, 1) := by decide +kernel
theorem d_Mod_isFor_6 : decode b_Mod_isFor 6 = .ok (.aload_n 0, 1) := by decide +kernel
theorem d_Mod_isFor_7 : decode b_Mod_isFor 7 = .ok (.getfield 146, 3) := by decide +kernel
theorem d_Mod_isFor_10 : decode b_Mod_isFor 10 = .ok (.ishr, 1) := by decide +kernel
theorem d_Mod_isFor_11 : decode b_Mod_isFor 11 = .ok (.iconst 1, 1) := by decide +kernel
theorem d_Mod_isFor_12 : decode b_Mod_isFor 12 = .ok (.iand, 1) := by decide +kernel
theorem d_Mod_isFor_13 : decode b_Mod_isFor 13 = .ok (.iconst 1, 1) := by decide +kernel
theorem d_Mod_isFor_14 : decode b_Mod_isFor 14 = .ok (.if_icmp .ne 7, 3) := by decide +kernel
theorem d_Mod_isFor_17 : decode b_Mod_isFor 17 = .ok (.iconst 1, 1) := by decide +kernel
theorem d_Mod_isFor_18 : decode b_Mod_isFor 18 = .ok (.goto 4, 3) := by decide +kernel
theorem d_Mod_isFor_21 : decode b_Mod_isFor 21 = .ok (.iconst 0, 1) := by decide +kernel
theorem d_Mod_isFor_22 : decode b_Mod_isFor 22 = .ok (.ireturn, 1) := by decide +kernel
theorem d_Mod_farSide_0 : decode b_Mod_farSide 0 = .ok (.aload_n 0, 1) := by decide +kernel
theorem d_Mod_farSide_1 : decode b_Mod_farSide 1 = .ok (.getfield 44, 3) := by decide +kernel
theorem d_Mod_farSide_4 : decode b_Mod_farSide 4 = .ok (.iload_n 1, 1) := by decide +kernel
theorem d_Mod_farSide_5 : decode b_Mod_farSide 5 = .ok (.baload, 1) := by decide +kernel
theorem d_Mod_farSide_6 : decode b_Mod_farSide 6 = .ok (.ifCond .eq 7, 3) := by decide +kernel
theorem d_Mod_farSide_9 : decode b_Mod_farSide 9 = .ok (.iconst 1, 1) := by decide +kernel
theorem d_Mod_farSide_10 : decode b_Mod_farSide 10 = .ok (.goto 4, 3) := by decide +kernel
theorem d_Mod_farSide_13 : decode b_Mod_farSide 13 = .ok (.iload_n 2, 1) := by decide +kernel
theorem d_Mod_farSide_14 : decode b_Mod_farSide 14 = .ok (.ireturn, 1) := by decide +kernel
theorem d_Mod_came_0 : decode b_Mod_came 0 = .ok (.iload_n 0, 1) := by decide +kernel
theorem d_Mod_came_1 : decode b_Mod_came 1 = .ok (.ifCond .le 12, 3) := by decide +kernel
theorem d_Mod_came_4 : decode b_Mod_came 4 = .ok (.iload_n 0, 1) := by decide +kernel
theorem d_Mod_came_5 : decode b_Mod_came 5 = .ok (.iload_n 1, 1) := by decide +kernel
theorem d_Mod_came_6 : decode b_Mod_came 6 = .ok (.if_icmp .ge 7, 3) := by decide +kernel
theorem d_Mod_came_9 : decode b_Mod_came 9 = .ok (.iconst 1, 1) := by decide +kernel
theorem d_Mod_came_10 : decode b_Mod_came 10 = .ok (.goto 4, 3) := by decide +kernel
theorem d_Mod_came_13 : decode b_Mod_came 13 = .ok (.iconst 0, 1) := by decide +kernel
theorem d_Mod_came_14 : decode b_Mod_came 14 = .ok (.ireturn, 1) := by decide +kernel
theorem d_Mod_comesThere_0 : decode b_Mod_comesThere 0 = .ok (.aload_n 0, 1) := by decide +kernel
theorem d_Mod_comesThere_1 : decode b_Mod_comesThere 1 = .ok (.getfield 68, 3) := by decide +kernel
theorem d_Mod_comesThere_4 : decode b_Mod_comesThere 4 = .ok (.iload_n 1, 1) := by decide +kernel
theorem d_Mod_comesThere_5 : decode b_Mod_comesThere 5 = .ok (.baload, 1) := by decide +kernel
theorem d_Mod_comesThere_6 : decode b_Mod_comesThere 6 = .ok (.ifCond .eq 11, 3) := by decide +kernel
theorem d_Mod_comesThere_9 : decode b_Mod_comesThere 9 = .ok (.iload_n 2, 1) := by decide +kernel
theorem d_Mod_comesThere_10 : decode b_Mod_comesThere 10 = .ok (.ifCond .ne 7, 3) := by decide +kernel
theorem d_Mod_comesThere_13 : decode b_Mod_comesThere 13 = .ok (.iconst 1, 1) := by decide +kernel
theorem d_Mod_comesThere_14 : decode b_Mod_comesThere 14 = .ok (.goto 4, 3) := by decide +kernel
theorem d_Mod_comesThere_17 : decode b_Mod_comesThere 17 = .ok (.iconst 0, 1) := by decide +kernel
theorem d_Mod_comesThere_18 : decode b_Mod_comesThere 18 = .ok (.istore 4, 2) := by decide +kernel
theorem d_Mod_comesThere_20 : decode b_Mod_comesThere 20 = .ok (.iconst 0, 1) := by decide +kernel
theorem d_Mod_comesThere_21 : decode b_Mod_comesThere 21 = .ok (.istore 5, 2) := by decide +kernel
theorem d_Mod_comesThere_23 : decode b_Mod_comesThere 23 = .ok (.iload 5, 2) := by decide +kernel
theorem d_Mod_comesThere_25 : decode b_Mod_comesThere 25 = .ok (.aload_n 0, 1) := by decide +kernel
theorem d_Mod_comesThere_26 : decode b_Mod_comesThere 26 = .ok (.getfield 149, 3) := by decide +kernel
theorem d_Mod_comesThere_29 : decode b_Mod_comesThere 29 = .ok (.if_icmp .ge 87, 3) := by decide +kernel
theorem d_Mod_comesThere_32 : decode b_Mod_comesThere 32 = .ok (.iconst 0, 1) := by decide +kernel
theorem d_Mod_comesThere_33 : decode b_Mod_comesThere 33 = .ok (.istore 6, 2) := by decide +kernel
theorem d_Mod_comesThere_35 : decode b_Mod_comesThere 35 = .ok (.iload 6, 2) := by decide +kernel
theorem d_Mod_comesThere_37 : decode b_Mod_comesThere 37 = .ok (.iconst 2, 1) := by decide +kernel
theorem d_Mod_comesThere_38 : decode b_Mod_comesThere 38 = .ok (.if_icmp .ge 72, 3) := by decide +kernel
theorem d_Mod_comesThere_41 : decode b_Mod_comesThere 41 = .ok (.iload 4, 2) := by decide +kernel
theorem d_Mod_comesThere_43 : decode b_Mod_comesThere 43 = .ok (.ifCond .ne 54, 3) := by decide +kernel
theorem d_Mod_comesThere_46 : decode b_Mod_comesThere 46 = .ok (.aload_n 0, 1) := by decide +kernel
theorem d_Mod_comesThere_47 : decode b_Mod_comesThere 47 = .ok (.iload 5, 2) := by decide +kernel
theorem d_Mod_comesThere_49 : decode b_Mod_comesThere 49 = .ok (.invokevirtual 152, 3) := by decide +kernel
theorem d_Mod_comesThere_52 : decode b_Mod_comesThere 52 = .ok (.ifCond .eq 49, 3) := by decide +kernel
theorem d_Mod_comesThere_55 : decode b_Mod_comesThere 55 = .ok (.aload_n 0, 1) := by decide +kernel
theorem d_Mod_comesThere_56 : decode b_Mod_comesThere 56 = .ok (.getfield 35, 3) := by decide +kernel
theorem d_Mod_comesThere_59 : decode b_Mod_comesThere 59 = .ok (.iload 5, 2) := by decide +kernel
theorem d_Mod_comesThere_61 : decode b_Mod_comesThere 61 = .ok (.iaload, 1) := by decide +kernel
theorem d_Mod_comesThere_62 : decode b_Mod_comesThere 62 = .ok (.iload_n 1, 1) := by decide +kernel
theorem d_Mod_comesThere_63 : decode b_Mod_comesThere 63 = .ok (.if_icmp .ne 38, 3) := by decide +kernel
theorem d_Mod_comesThere_66 : decode b_Mod_comesThere 66 = .ok (.aload_n 0, 1) := by decide +kernel
theorem d_Mod_comesThere_67 : decode b_Mod_comesThere 67 = .ok (.iload 5, 2) := by decide +kernel
theorem d_Mod_comesThere_69 : decode b_Mod_comesThere 69 = .ok (.iload 6, 2) := by decide +kernel
theorem d_Mod_comesThere_71 : decode b_Mod_comesThere 71 = .ok (.invokevirtual 155, 3) := by decide +kernel
theorem d_Mod_comesThere_74 : decode b_Mod_comesThere 74 = .ok (.iload_n 2, 1) := by decide +kernel
theorem d_Mod_comesThere_75 : decode b_Mod_comesThere 75 = .ok (.if_icmp .ne 26, 3) := by decide +kernel
theorem d_Mod_comesThere_78 : decode b_Mod_comesThere 78 = .ok (.aload_n 0, 1) := by decide +kernel
theorem d_Mod_comesThere_79 : decode b_Mod_comesThere 79 = .ok (.getfield 74, 3) := by decide +kernel
theorem d_Mod_comesThere_82 : decode b_Mod_comesThere 82 = .ok (.iconst 2, 1) := by decide +kernel
theorem d_Mod_comesThere_83 : decode b_Mod_comesThere 83 = .ok (.iload 5, 2) := by decide +kernel
theorem d_Mod_comesThere_85 : decode b_Mod_comesThere 85 = .ok (.imul, 1) := by decide +kernel
theorem d_Mod_comesThere_86 : decode b_Mod_comesThere 86 = .ok (.iload 6, 2) := by decide +kernel
theorem d_Mod_comesThere_88 : decode b_Mod_comesThere 88 = .ok (.iadd, 1) := by decide +kernel
theorem d_Mod_comesThere_89 : decode b_Mod_comesThere 89 = .ok (.iaload, 1) := by decide +kernel
theorem d_Mod_comesThere_90 : decode b_Mod_comesThere 90 = .ok (.iload_n 3, 1) := by decide +kernel
theorem d_Mod_comesThere_91 : decode b_Mod_comesThere 91 = .ok (.invokestatic 158, 3) := by decide +kernel
theorem d_Mod_comesThere_94 : decode b_Mod_comesThere 94 = .ok (.ifCond .eq 7, 3) := by decide +kernel
theorem d_Mod_comesThere_97 : decode b_Mod_comesThere 97 = .ok (.iconst 1, 1) := by decide +kernel
theorem d_Mod_comesThere_98 : decode b_Mod_comesThere 98 = .ok (.goto 4, 3) := by decide +kernel
theorem d_Mod_comesThere_101 : decode b_Mod_comesThere 101 = .ok (.iconst 0, 1) := by decide +kernel
theorem d_Mod_comesThere_102 : decode b_Mod_comesThere 102 = .ok (.istore 4, 2) := by decide +kernel
theorem d_Mod_comesThere_104 : decode b_Mod_comesThere 104 = .ok (.iinc 6 1, 3) := by decide +kernel
theorem d_Mod_comesThere_107 : decode b_Mod_comesThere 107 = .ok (.goto (-72), 3) := by decide +kernel
theorem d_Mod_comesThere_110 : decode b_Mod_comesThere 110 = .ok (.iinc 5 1, 3) := by decide +kernel
theorem d_Mod_comesThere_113 : decode b_Mod_comesThere 113 = .ok (.goto (-90), 3) := by decide +kernel
theorem d_Mod_comesThere_116 : decode b_Mod_comesThere 116 = .ok (.iload 4, 2) := by decide +kernel
theorem d_Mod_comesThere_118 : decode b_Mod_comesThere 118 = .ok (.ireturn, 1) := by decide +kernel
theorem d_Mod_comesLive_0 : decode b_Mod_comesLive 0 = .ok (.aload_n 0, 1) := by decide +kernel
theorem d_Mod_comesLive_1 : decode b_Mod_comesLive 1 = .ok (.iload_n 1, 1) := by decide +kernel
theorem d_Mod_comesLive_2 : decode b_Mod_comesLive 2 = .ok (.invokevirtual 152, 3) := by decide +kernel
theorem d_Mod_comesLive_5 : decode b_Mod_comesLive 5 = .ok (.ifCond .ne 5, 3) := by decide +kernel
theorem d_Mod_comesLive_8 : decode b_Mod_comesLive 8 = .ok (.iconst 0, 1) := by decide +kernel
theorem d_Mod_comesLive_9 : decode b_Mod_comesLive 9 = .ok (.ireturn, 1) := by decide +kernel
theorem d_Mod_comesLive_10 : decode b_Mod_comesLive 10 = .ok (.aload_n 0, 1) := by decide +kernel
theorem d_Mod_comesLive_11 : decode b_Mod_comesLive 11 = .ok (.getfield 47, 3) := by decide +kernel
theorem d_Mod_comesLive_14 : decode b_Mod_comesLive 14 = .ok (.iload_n 1, 1) := by decide +kernel
theorem d_Mod_comesLive_15 : decode b_Mod_comesLive 15 = .ok (.baload, 1) := by decide +kernel
theorem d_Mod_comesLive_16 : decode b_Mod_comesLive 16 = .ok (.ifCond .ne 29, 3) := by decide +kernel
theorem d_Mod_comesLive_19 : decode b_Mod_comesLive 19 = .ok (.aload_n 0, 1) := by decide +kernel
theorem d_Mod_comesLive_20 : decode b_Mod_comesLive 20 = .ok (.getfield 71, 3) := by decide +kernel
theorem d_Mod_comesLive_23 : decode b_Mod_comesLive 23 = .ok (.iconst 2, 1) := by decide +kernel
theorem d_Mod_comesLive_24 : decode b_Mod_comesLive 24 = .ok (.aload_n 0, 1) := by decide +kernel
theorem d_Mod_comesLive_25 : decode b_Mod_comesLive 25 = .ok (.getfield 32, 3) := by decide +kernel
theorem d_Mod_comesLive_28 : decode b_Mod_comesLive 28 = .ok (.iload_n 1, 1) := by decide +kernel
theorem d_Mod_comesLive_29 : decode b_Mod_comesLive 29 = .ok (.iaload, 1) := by decide +kernel
theorem d_Mod_comesLive_30 : decode b_Mod_comesLive 30 = .ok (.imul, 1) := by decide +kernel
theorem d_Mod_comesLive_31 : decode b_Mod_comesLive 31 = .ok (.iload_n 2, 1) := by decide +kernel
theorem d_Mod_comesLive_32 : decode b_Mod_comesLive 32 = .ok (.iadd, 1) := by decide +kernel
theorem d_Mod_comesLive_33 : decode b_Mod_comesLive 33 = .ok (.iaload, 1) := by decide +kernel
theorem d_Mod_comesLive_34 : decode b_Mod_comesLive 34 = .ok (.iload_n 3, 1) := by decide +kernel
theorem d_Mod_comesLive_35 : decode b_Mod_comesLive 35 = .ok (.invokestatic 158, 3) := by decide +kernel
theorem d_Mod_comesLive_38 : decode b_Mod_comesLive 38 = .ok (.ifCond .eq 7, 3) := by decide +kernel
theorem d_Mod_comesLive_41 : decode b_Mod_comesLive 41 = .ok (.iconst 1, 1) := by decide +kernel
theorem d_Mod_comesLive_42 : decode b_Mod_comesLive 42 = .ok (.goto 4, 3) := by decide +kernel
theorem d_Mod_comesLive_45 : decode b_Mod_comesLive 45 = .ok (.iconst 0, 1) := by decide +kernel
theorem d_Mod_comesLive_46 : decode b_Mod_comesLive 46 = .ok (.istore 4, 2) := by decide +kernel
theorem d_Mod_comesLive_48 : decode b_Mod_comesLive 48 = .ok (.iconst 0, 1) := by decide +kernel
theorem d_Mod_comesLive_49 : decode b_Mod_comesLive 49 = .ok (.istore 5, 2) := by decide +kernel
theorem d_Mod_comesLive_51 : decode b_Mod_comesLive 51 = .ok (.iload 5, 2) := by decide +kernel
theorem d_Mod_comesLive_53 : decode b_Mod_comesLive 53 = .ok (.aload_n 0, 1) := by decide +kernel
theorem d_Mod_comesLive_54 : decode b_Mod_comesLive 54 = .ok (.getfield 162, 3) := by decide +kernel
theorem d_Mod_comesLive_57 : decode b_Mod_comesLive 57 = .ok (.if_icmp .ge 77, 3) := by decide +kernel
theorem d_Mod_comesLive_60 : decode b_Mod_comesLive 60 = .ok (.iload 4, 2) := by decide +kernel
theorem d_Mod_comesLive_62 : decode b_Mod_comesLive 62 = .ok (.ifCond .ne 59, 3) := by decide +kernel
theorem d_Mod_comesLive_65 : decode b_Mod_comesLive 65 = .ok (.aload_n 0, 1) := by decide +kernel
theorem d_Mod_comesLive_66 : decode b_Mod_comesLive 66 = .ok (.getfield 59, 3) := by decide +kernel
theorem d_Mod_comesLive_69 : decode b_Mod_comesLive 69 = .ok (.iload 5, 2) := by decide +kernel
theorem d_Mod_comesLive_71 : decode b_Mod_comesLive 71 = .ok (.iaload, 1) := by decide +kernel
theorem d_Mod_comesLive_72 : decode b_Mod_comesLive 72 = .ok (.iconst 1, 1) := by decide +kernel
theorem d_Mod_comesLive_73 : decode b_Mod_comesLive 73 = .ok (.if_icmp .eq 14, 3) := by decide +kernel
theorem d_Mod_comesLive_76 : decode b_Mod_comesLive 76 = .ok (.aload_n 0, 1) := by decide +kernel
theorem d_Mod_comesLive_77 : decode b_Mod_comesLive 77 = .ok (.getfield 59, 3) := by decide +kernel
theorem d_Mod_comesLive_80 : decode b_Mod_comesLive 80 = .ok (.iload 5, 2) := by decide +kernel
theorem d_Mod_comesLive_82 : decode b_Mod_comesLive 82 = .ok (.iaload, 1) := by decide +kernel
theorem d_Mod_comesLive_83 : decode b_Mod_comesLive 83 = .ok (.iconst 2, 1) := by decide +kernel
theorem d_Mod_comesLive_84 : decode b_Mod_comesLive 84 = .ok (.if_icmp .ne 41, 3) := by decide +kernel
theorem d_Mod_comesLive_87 : decode b_Mod_comesLive 87 = .ok (.aload_n 0, 1) := by decide +kernel
theorem d_Mod_comesLive_88 : decode b_Mod_comesLive 88 = .ok (.getfield 62, 3) := by decide +kernel
theorem d_Mod_comesLive_91 : decode b_Mod_comesLive 91 = .ok (.iload 5, 2) := by decide +kernel
theorem d_Mod_comesLive_93 : decode b_Mod_comesLive 93 = .ok (.iaload, 1) := by decide +kernel
theorem d_Mod_comesLive_94 : decode b_Mod_comesLive 94 = .ok (.iload_n 1, 1) := by decide +kernel
theorem d_Mod_comesLive_95 : decode b_Mod_comesLive 95 = .ok (.if_icmp .ne 30, 3) := by decide +kernel
theorem d_Mod_comesLive_98 : decode b_Mod_comesLive 98 = .ok (.aload_n 0, 1) := by decide +kernel
theorem d_Mod_comesLive_99 : decode b_Mod_comesLive 99 = .ok (.getfield 77, 3) := by decide +kernel
theorem d_Mod_comesLive_102 : decode b_Mod_comesLive 102 = .ok (.iconst 2, 1) := by decide +kernel
theorem d_Mod_comesLive_103 : decode b_Mod_comesLive 103 = .ok (.aload_n 0, 1) := by decide +kernel
theorem d_Mod_comesLive_104 : decode b_Mod_comesLive 104 = .ok (.getfield 56, 3) := by decide +kernel
theorem d_Mod_comesLive_107 : decode b_Mod_comesLive 107 = .ok (.iload 5, 2) := by decide +kernel
theorem d_Mod_comesLive_109 : decode b_Mod_comesLive 109 = .ok (.iaload, 1) := by decide +kernel
theorem d_Mod_comesLive_110 : decode b_Mod_comesLive 110 = .ok (.imul, 1) := by decide +kernel
theorem d_Mod_comesLive_111 : decode b_Mod_comesLive 111 = .ok (.iload_n 2, 1) := by decide +kernel
theorem d_Mod_comesLive_112 : decode b_Mod_comesLive 112 = .ok (.iadd, 1) := by decide +kernel
theorem d_Mod_comesLive_113 : decode b_Mod_comesLive 113 = .ok (.iaload, 1) := by decide +kernel
theorem d_Mod_comesLive_114 : decode b_Mod_comesLive 114 = .ok (.iload_n 3, 1) := by decide +kernel
theorem d_Mod_comesLive_115 : decode b_Mod_comesLive 115 = .ok (.invokestatic 158, 3) := by decide +kernel
theorem d_Mod_comesLive_118 : decode b_Mod_comesLive 118 = .ok (.ifCond .eq 7, 3) := by decide +kernel
theorem d_Mod_comesLive_121 : decode b_Mod_comesLive 121 = .ok (.iconst 1, 1) := by decide +kernel
theorem d_Mod_comesLive_122 : decode b_Mod_comesLive 122 = .ok (.goto 4, 3) := by decide +kernel
theorem d_Mod_comesLive_125 : decode b_Mod_comesLive 125 = .ok (.iconst 0, 1) := by decide +kernel
theorem d_Mod_comesLive_126 : decode b_Mod_comesLive 126 = .ok (.istore 4, 2) := by decide +kernel
theorem d_Mod_comesLive_128 : decode b_Mod_comesLive 128 = .ok (.iinc 5 1, 3) := by decide +kernel
theorem d_Mod_comesLive_131 : decode b_Mod_comesLive 131 = .ok (.goto (-80), 3) := by decide +kernel
theorem d_Mod_comesLive_134 : decode b_Mod_comesLive 134 = .ok (.iload 4, 2) := by decide +kernel
theorem d_Mod_comesLive_136 : decode b_Mod_comesLive 136 = .ok (.ireturn, 1) := by decide +kernel
theorem d_Mod_tell_0 : decode b_Mod_tell 0 = .ok (.aload_n 0, 1) := by decide +kernel
theorem d_Mod_tell_1 : decode b_Mod_tell 1 = .ok (.getfield 96, 3) := by decide +kernel
theorem d_Mod_tell_4 : decode b_Mod_tell 4 = .ok (.aload_n 0, 1) := by decide +kernel
theorem d_Mod_tell_5 : decode b_Mod_tell 5 = .ok (.getfield 165, 3) := by decide +kernel
theorem d_Mod_tell_8 : decode b_Mod_tell 8 = .ok (.iload_n 1, 1) := by decide +kernel
theorem d_Mod_tell_9 : decode b_Mod_tell 9 = .ok (.iastore, 1) := by decide +kernel
theorem d_Mod_tell_10 : decode b_Mod_tell 10 = .ok (.aload_n 0, 1) := by decide +kernel
theorem d_Mod_tell_11 : decode b_Mod_tell 11 = .ok (.getfield 99, 3) := by decide +kernel
theorem d_Mod_tell_14 : decode b_Mod_tell 14 = .ok (.aload_n 0, 1) := by decide +kernel
theorem d_Mod_tell_15 : decode b_Mod_tell 15 = .ok (.getfield 165, 3) := by decide +kernel
theorem d_Mod_tell_18 : decode b_Mod_tell 18 = .ok (.iload_n 2, 1) := by decide +kernel
theorem d_Mod_tell_19 : decode b_Mod_tell 19 = .ok (.iastore, 1) := by decide +kernel
theorem d_Mod_tell_20 : decode b_Mod_tell 20 = .ok (.aload_n 0, 1) := by decide +kernel
theorem d_Mod_tell_21 : decode b_Mod_tell 21 = .ok (.dup, 1) := by decide +kernel
theorem d_Mod_tell_22 : decode b_Mod_tell 22 = .ok (.getfield 165, 3) := by decide +kernel
theorem d_Mod_tell_25 : decode b_Mod_tell 25 = .ok (.iconst 1, 1) := by decide +kernel
theorem d_Mod_tell_26 : decode b_Mod_tell 26 = .ok (.iadd, 1) := by decide +kernel
theorem d_Mod_tell_27 : decode b_Mod_tell 27 = .ok (.putfield 165, 3) := by decide +kernel
theorem d_Mod_tell_30 : decode b_Mod_tell 30 = .ok (.return_, 1) := by decide +kernel
theorem d_Mod_turnsOn_0 : decode b_Mod_turnsOn 0 = .ok (.aload_n 0, 1) := by decide +kernel
theorem d_Mod_turnsOn_1 : decode b_Mod_turnsOn 1 = .ok (.getfield 62, 3) := by decide +kernel
theorem d_Mod_turnsOn_4 : decode b_Mod_turnsOn 4 = .ok (.iload_n 1, 1) := by decide +kernel
theorem d_Mod_turnsOn_5 : decode b_Mod_turnsOn 5 = .ok (.iaload, 1) := by decide +kernel
theorem d_Mod_turnsOn_6 : decode b_Mod_turnsOn 6 = .ok (.istore 7, 2) := by decide +kernel
theorem d_Mod_turnsOn_8 : decode b_Mod_turnsOn 8 = .ok (.aload_n 0, 1) := by decide +kernel
theorem d_Mod_turnsOn_9 : decode b_Mod_turnsOn 9 = .ok (.getfield 65, 3) := by decide +kernel
theorem d_Mod_turnsOn_12 : decode b_Mod_turnsOn 12 = .ok (.iload_n 1, 1) := by decide +kernel
theorem d_Mod_turnsOn_13 : decode b_Mod_turnsOn 13 = .ok (.iaload, 1) := by decide +kernel
theorem d_Mod_turnsOn_14 : decode b_Mod_turnsOn 14 = .ok (.iload 4, 2) := by decide +kernel
theorem d_Mod_turnsOn_16 : decode b_Mod_turnsOn 16 = .ok (.if_icmp .ne 26, 3) := by decide +kernel
theorem d_Mod_turnsOn_19 : decode b_Mod_turnsOn 19 = .ok (.aload_n 0, 1) := by decide +kernel
theorem d_Mod_turnsOn_20 : decode b_Mod_turnsOn 20 = .ok (.getfield 77, 3) := by decide +kernel
theorem d_Mod_turnsOn_23 : decode b_Mod_turnsOn 23 = .ok (.iconst 2, 1) := by decide +kernel
theorem d_Mod_turnsOn_24 : decode b_Mod_turnsOn 24 = .ok (.aload_n 0, 1) := by decide +kernel
theorem d_Mod_turnsOn_25 : decode b_Mod_turnsOn 25 = .ok (.getfield 56, 3) := by decide +kernel
theorem d_Mod_turnsOn_28 : decode b_Mod_turnsOn 28 = .ok (.iload_n 1, 1) := by decide +kernel
theorem d_Mod_turnsOn_29 : decode b_Mod_turnsOn 29 = .ok (.iaload, 1) := by decide +kernel
theorem d_Mod_turnsOn_30 : decode b_Mod_turnsOn 30 = .ok (.imul, 1) := by decide +kernel
theorem d_Mod_turnsOn_31 : decode b_Mod_turnsOn 31 = .ok (.iload_n 2, 1) := by decide +kernel
theorem d_Mod_turnsOn_32 : decode b_Mod_turnsOn 32 = .ok (.iadd, 1) := by decide +kernel
theorem d_Mod_turnsOn_33 : decode b_Mod_turnsOn 33 = .ok (.iaload, 1) := by decide +kernel
theorem d_Mod_turnsOn_34 : decode b_Mod_turnsOn 34 = .ok (.iload 6, 2) := by decide +kernel
theorem d_Mod_turnsOn_36 : decode b_Mod_turnsOn 36 = .ok (.invokestatic 158, 3) := by decide +kernel
theorem d_Mod_turnsOn_39 : decode b_Mod_turnsOn 39 = .ok (.ifCond .ne 5, 3) := by decide +kernel
theorem d_Mod_turnsOn_42 : decode b_Mod_turnsOn 42 = .ok (.iconst 0, 1) := by decide +kernel
theorem d_Mod_turnsOn_43 : decode b_Mod_turnsOn 43 = .ok (.ireturn, 1) := by decide +kernel
theorem d_Mod_turnsOn_44 : decode b_Mod_turnsOn 44 = .ok (.iload_n 3, 1) := by decide +kernel
theorem d_Mod_turnsOn_45 : decode b_Mod_turnsOn 45 = .ok (.iconst 3, 1) := by decide +kernel
theorem d_Mod_turnsOn_46 : decode b_Mod_turnsOn 46 = .ok (.if_icmp .ne 24, 3) := by decide +kernel
theorem d_Mod_turnsOn_49 : decode b_Mod_turnsOn 49 = .ok (.aload_n 0, 1) := by decide +kernel
theorem d_Mod_turnsOn_50 : decode b_Mod_turnsOn 50 = .ok (.getfield 59, 3) := by decide +kernel
theorem d_Mod_turnsOn_53 : decode b_Mod_turnsOn 53 = .ok (.iload_n 1, 1) := by decide +kernel
theorem d_Mod_turnsOn_54 : decode b_Mod_turnsOn 54 = .ok (.iaload, 1) := by decide +kernel
theorem d_Mod_turnsOn_55 : decode b_Mod_turnsOn 55 = .ok (.ifCond .ne 13, 3) := by decide +kernel
theorem d_Mod_turnsOn_58 : decode b_Mod_turnsOn 58 = .ok (.iload_n 2, 1) := by decide +kernel
theorem d_Mod_turnsOn_59 : decode b_Mod_turnsOn 59 = .ok (.iload 5, 2) := by decide +kernel
theorem d_Mod_turnsOn_61 : decode b_Mod_turnsOn 61 = .ok (.if_icmp .ne 7, 3) := by decide +kernel
theorem d_Mod_turnsOn_64 : decode b_Mod_turnsOn 64 = .ok (.iconst 1, 1) := by decide +kernel
theorem d_Mod_turnsOn_65 : decode b_Mod_turnsOn 65 = .ok (.goto 4, 3) := by decide +kernel
theorem d_Mod_turnsOn_68 : decode b_Mod_turnsOn 68 = .ok (.iconst 0, 1) := by decide +kernel
theorem d_Mod_turnsOn_69 : decode b_Mod_turnsOn 69 = .ok (.ireturn, 1) := by decide +kernel
theorem d_Mod_turnsOn_70 : decode b_Mod_turnsOn 70 = .ok (.aload_n 0, 1) := by decide +kernel
theorem d_Mod_turnsOn_71 : decode b_Mod_turnsOn 71 = .ok (.getfield 59, 3) := by decide +kernel
theorem d_Mod_turnsOn_74 : decode b_Mod_turnsOn 74 = .ok (.iload_n 1, 1) := by decide +kernel
theorem d_Mod_turnsOn_75 : decode b_Mod_turnsOn 75 = .ok (.iaload, 1) := by decide +kernel
theorem d_Mod_turnsOn_76 : decode b_Mod_turnsOn 76 = .ok (.iload_n 3, 1) := by decide +kernel
theorem d_Mod_turnsOn_77 : decode b_Mod_turnsOn 77 = .ok (.iconst 4, 1) := by decide +kernel
theorem d_Mod_turnsOn_78 : decode b_Mod_turnsOn 78 = .ok (.if_icmp .ne 7, 3) := by decide +kernel
theorem d_Mod_turnsOn_81 : decode b_Mod_turnsOn 81 = .ok (.iconst 2, 1) := by decide +kernel
theorem d_Mod_turnsOn_82 : decode b_Mod_turnsOn 82 = .ok (.goto 4, 3) := by decide +kernel
theorem d_Mod_turnsOn_85 : decode b_Mod_turnsOn 85 = .ok (.iconst 3, 1) := by decide +kernel
theorem d_Mod_turnsOn_86 : decode b_Mod_turnsOn 86 = .ok (.if_icmp .ne 24, 3) := by decide +kernel
theorem d_Mod_turnsOn_89 : decode b_Mod_turnsOn 89 = .ok (.aload_n 0, 1) := by decide +kernel
theorem d_Mod_turnsOn_90 : decode b_Mod_turnsOn 90 = .ok (.iload 7, 2) := by decide +kernel
theorem d_Mod_turnsOn_92 : decode b_Mod_turnsOn 92 = .ok (.invokevirtual 152, 3) := by decide +kernel
theorem d_Mod_turnsOn_95 : decode b_Mod_turnsOn 95 = .ok (.ifCond .eq 15, 3) := by decide +kernel
theorem d_Mod_turnsOn_98 : decode b_Mod_turnsOn 98 = .ok (.aload_n 0, 1) := by decide +kernel
theorem d_Mod_turnsOn_99 : decode b_Mod_turnsOn 99 = .ok (.iload 7, 2) := by decide +kernel
theorem d_Mod_turnsOn_101 : decode b_Mod_turnsOn 101 = .ok (.iload_n 2, 1) := by decide +kernel
theorem d_Mod_turnsOn_102 : decode b_Mod_turnsOn 102 = .ok (.invokevirtual 155, 3) := by decide +kernel
theorem d_Mod_turnsOn_105 : decode b_Mod_turnsOn 105 = .ok (.iload 5, 2) := by decide +kernel
theorem d_Mod_turnsOn_107 : decode b_Mod_turnsOn 107 = .ok (.if_icmp .eq 5, 3) := by decide +kernel
theorem d_Mod_turnsOn_110 : decode b_Mod_turnsOn 110 = .ok (.iconst 0, 1) := by decide +kernel
theorem d_Mod_turnsOn_111 : decode b_Mod_turnsOn 111 = .ok (.ireturn, 1) := by decide +kernel
theorem d_Mod_turnsOn_112 : decode b_Mod_turnsOn 112 = .ok (.iload_n 3, 1) := by decide +kernel
theorem d_Mod_turnsOn_113 : decode b_Mod_turnsOn 113 = .ok (.iconst 4, 1) := by decide +kernel
theorem d_Mod_turnsOn_114 : decode b_Mod_turnsOn 114 = .ok (.if_icmp .eq 22, 3) := by decide +kernel
theorem d_Mod_turnsOn_117 : decode b_Mod_turnsOn 117 = .ok (.aload_n 0, 1) := by decide +kernel
theorem d_Mod_turnsOn_118 : decode b_Mod_turnsOn 118 = .ok (.getfield 74, 3) := by decide +kernel
theorem d_Mod_turnsOn_121 : decode b_Mod_turnsOn 121 = .ok (.iconst 2, 1) := by decide +kernel
theorem d_Mod_turnsOn_122 : decode b_Mod_turnsOn 122 = .ok (.iload 7, 2) := by decide +kernel
theorem d_Mod_turnsOn_124 : decode b_Mod_turnsOn 124 = .ok (.imul, 1) := by decide +kernel
theorem d_Mod_turnsOn_125 : decode b_Mod_turnsOn 125 = .ok (.iload_n 2, 1) := by decide +kernel
theorem d_Mod_turnsOn_126 : decode b_Mod_turnsOn 126 = .ok (.iadd, 1) := by decide +kernel
theorem d_Mod_turnsOn_127 : decode b_Mod_turnsOn 127 = .ok (.iaload, 1) := by decide +kernel
theorem d_Mod_turnsOn_128 : decode b_Mod_turnsOn 128 = .ok (.iload 6, 2) := by decide +kernel
theorem d_Mod_turnsOn_130 : decode b_Mod_turnsOn 130 = .ok (.invokestatic 158, 3) := by decide +kernel
theorem d_Mod_turnsOn_133 : decode b_Mod_turnsOn 133 = .ok (.ifCond .eq 7, 3) := by decide +kernel
theorem d_Mod_turnsOn_136 : decode b_Mod_turnsOn 136 = .ok (.iconst 1, 1) := by decide +kernel
theorem d_Mod_turnsOn_137 : decode b_Mod_turnsOn 137 = .ok (.goto 4, 3) := by decide +kernel
theorem d_Mod_turnsOn_140 : decode b_Mod_turnsOn 140 = .ok (.iconst 0, 1) := by decide +kernel
theorem d_Mod_turnsOn_141 : decode b_Mod_turnsOn 141 = .ok (.ireturn, 1) := by decide +kernel
end
section
theorem d_Mod_gather_0 : decode b_Mod_gather 0 = .ok (.aload_n 0, 1) := by decide +kernel
theorem d_Mod_gather_1 : decode b_Mod_gather 1 = .ok (.iconst 0, 1) := by decide +kernel
theorem d_Mod_gather_2 : decode b_Mod_gather 2 = .ok (.putfield 165, 3) := by decide +kernel
theorem d_Mod_gather_5 : decode b_Mod_gather 5 = .ok (.aload_n 0, 1) := by decide +kernel
theorem d_Mod_gather_6 : decode b_Mod_gather 6 = .ok (.getfield 19, 3) := by decide +kernel
theorem d_Mod_gather_9 : decode b_Mod_gather 9 = .ok (.iload_n 1, 1) := by decide +kernel
theorem d_Mod_gather_10 : decode b_Mod_gather 10 = .ok (.iaload, 1) := by decide +kernel
theorem d_Mod_gather_11 : decode b_Mod_gather 11 = .ok (.istore 4, 2) := by decide +kernel
theorem d_Mod_gather_13 : decode b_Mod_gather 13 = .ok (.aload_n 0, 1) := by decide +kernel
theorem d_Mod_gather_14 : decode b_Mod_gather 14 = .ok (.getfield 68, 3) := by decide +kernel
theorem d_Mod_gather_17 : decode b_Mod_gather 17 = .ok (.iload 4, 2) := by decide +kernel
theorem d_Mod_gather_19 : decode b_Mod_gather 19 = .ok (.baload, 1) := by decide +kernel
theorem d_Mod_gather_20 : decode b_Mod_gather 20 = .ok (.ifCond .eq 49, 3) := by decide +kernel
theorem d_Mod_gather_23 : decode b_Mod_gather 23 = .ok (.aload_n 0, 1) := by decide +kernel
theorem d_Mod_gather_24 : decode b_Mod_gather 24 = .ok (.getfield 16, 3) := by decide +kernel
theorem d_Mod_gather_27 : decode b_Mod_gather 27 = .ok (.iload 4, 2) := by decide +kernel
theorem d_Mod_gather_29 : decode b_Mod_gather 29 = .ok (.baload, 1) := by decide +kernel
theorem d_Mod_gather_30 : decode b_Mod_gather 30 = .ok (.ifCond .eq 39, 3) := by decide +kernel
theorem d_Mod_gather_33 : decode b_Mod_gather 33 = .ok (.aload_n 0, 1) := by decide +kernel
theorem d_Mod_gather_34 : decode b_Mod_gather 34 = .ok (.getfield 29, 3) := by decide +kernel
theorem d_Mod_gather_37 : decode b_Mod_gather 37 = .ok (.iload_n 1, 1) := by decide +kernel
theorem d_Mod_gather_38 : decode b_Mod_gather 38 = .ok (.baload, 1) := by decide +kernel
theorem d_Mod_gather_39 : decode b_Mod_gather 39 = .ok (.ifCond .eq 30, 3) := by decide +kernel
theorem d_Mod_gather_42 : decode b_Mod_gather 42 = .ok (.iload_n 2, 1) := by decide +kernel
theorem d_Mod_gather_43 : decode b_Mod_gather 43 = .ok (.ifCond .ne 26, 3) := by decide +kernel
theorem d_Mod_gather_46 : decode b_Mod_gather 46 = .ok (.aload_n 0, 1) := by decide +kernel
theorem d_Mod_gather_47 : decode b_Mod_gather 47 = .ok (.getfield 71, 3) := by decide +kernel
theorem d_Mod_gather_50 : decode b_Mod_gather 50 = .ok (.iconst 2, 1) := by decide +kernel
theorem d_Mod_gather_51 : decode b_Mod_gather 51 = .ok (.iload 4, 2) := by decide +kernel
theorem d_Mod_gather_53 : decode b_Mod_gather 53 = .ok (.imul, 1) := by decide +kernel
theorem d_Mod_gather_54 : decode b_Mod_gather 54 = .ok (.iaload, 1) := by decide +kernel
theorem d_Mod_gather_55 : decode b_Mod_gather 55 = .ok (.iload_n 3, 1) := by decide +kernel
theorem d_Mod_gather_56 : decode b_Mod_gather 56 = .ok (.invokestatic 158, 3) := by decide +kernel
theorem d_Mod_gather_59 : decode b_Mod_gather 59 = .ok (.ifCond .eq 10, 3) := by decide +kernel
theorem d_Mod_gather_62 : decode b_Mod_gather 62 = .ok (.aload_n 0, 1) := by decide +kernel
theorem d_Mod_gather_63 : decode b_Mod_gather 63 = .ok (.iconst 0, 1) := by decide +kernel
theorem d_Mod_gather_64 : decode b_Mod_gather 64 = .ok (.iload 4, 2) := by decide +kernel
theorem d_Mod_gather_66 : decode b_Mod_gather 66 = .ok (.invokevirtual 168, 3) := by decide +kernel
theorem d_Mod_gather_69 : decode b_Mod_gather 69 = .ok (.iconst 0, 1) := by decide +kernel
theorem d_Mod_gather_70 : decode b_Mod_gather 70 = .ok (.istore 5, 2) := by decide +kernel
theorem d_Mod_gather_72 : decode b_Mod_gather 72 = .ok (.iload 5, 2) := by decide +kernel
theorem d_Mod_gather_74 : decode b_Mod_gather 74 = .ok (.iconst 2, 1) := by decide +kernel
theorem d_Mod_gather_75 : decode b_Mod_gather 75 = .ok (.aload_n 0, 1) := by decide +kernel
theorem d_Mod_gather_76 : decode b_Mod_gather 76 = .ok (.getfield 149, 3) := by decide +kernel
theorem d_Mod_gather_79 : decode b_Mod_gather 79 = .ok (.imul, 1) := by decide +kernel
theorem d_Mod_gather_80 : decode b_Mod_gather 80 = .ok (.if_icmp .ge 87, 3) := by decide +kernel
theorem d_Mod_gather_83 : decode b_Mod_gather 83 = .ok (.iload 5, 2) := by decide +kernel
theorem d_Mod_gather_85 : decode b_Mod_gather 85 = .ok (.iconst 2, 1) := by decide +kernel
theorem d_Mod_gather_86 : decode b_Mod_gather 86 = .ok (.idiv, 1) := by decide +kernel
theorem d_Mod_gather_87 : decode b_Mod_gather 87 = .ok (.istore 6, 2) := by decide +kernel
theorem d_Mod_gather_89 : decode b_Mod_gather 89 = .ok (.aload_n 0, 1) := by decide +kernel
theorem d_Mod_gather_90 : decode b_Mod_gather 90 = .ok (.iload 6, 2) := by decide +kernel
theorem d_Mod_gather_92 : decode b_Mod_gather 92 = .ok (.iload_n 1, 1) := by decide +kernel
theorem d_Mod_gather_93 : decode b_Mod_gather 93 = .ok (.aload_n 0, 1) := by decide +kernel
theorem d_Mod_gather_94 : decode b_Mod_gather 94 = .ok (.getfield 172, 3) := by decide +kernel
theorem d_Mod_gather_97 : decode b_Mod_gather 97 = .ok (.invokevirtual 136, 3) := by decide +kernel
theorem d_Mod_gather_100 : decode b_Mod_gather 100 = .ok (.istore 7, 2) := by decide +kernel
theorem d_Mod_gather_102 : decode b_Mod_gather 102 = .ok (.iload 7, 2) := by decide +kernel
theorem d_Mod_gather_104 : decode b_Mod_gather 104 = .ok (.iconst (-1), 1) := by decide +kernel
theorem d_Mod_gather_105 : decode b_Mod_gather 105 = .ok (.if_icmp .eq 56, 3) := by decide +kernel
theorem d_Mod_gather_108 : decode b_Mod_gather 108 = .ok (.iload 7, 2) := by decide +kernel
theorem d_Mod_gather_110 : decode b_Mod_gather 110 = .ok (.aload_n 0, 1) := by decide +kernel
theorem d_Mod_gather_111 : decode b_Mod_gather 111 = .ok (.getfield 89, 3) := by decide +kernel
theorem d_Mod_gather_114 : decode b_Mod_gather 114 = .ok (.if_icmp .eq 47, 3) := by decide +kernel
theorem d_Mod_gather_117 : decode b_Mod_gather 117 = .ok (.aload_n 0, 1) := by decide +kernel
theorem d_Mod_gather_118 : decode b_Mod_gather 118 = .ok (.iload 6, 2) := by decide +kernel
theorem d_Mod_gather_120 : decode b_Mod_gather 120 = .ok (.invokevirtual 152, 3) := by decide +kernel
theorem d_Mod_gather_123 : decode b_Mod_gather 123 = .ok (.ifCond .eq 38, 3) := by decide +kernel
theorem d_Mod_gather_126 : decode b_Mod_gather 126 = .ok (.aload_n 0, 1) := by decide +kernel
theorem d_Mod_gather_127 : decode b_Mod_gather 127 = .ok (.iload 6, 2) := by decide +kernel
theorem d_Mod_gather_129 : decode b_Mod_gather 129 = .ok (.iload 5, 2) := by decide +kernel
theorem d_Mod_gather_131 : decode b_Mod_gather 131 = .ok (.iconst 2, 1) := by decide +kernel
theorem d_Mod_gather_132 : decode b_Mod_gather 132 = .ok (.irem, 1) := by decide +kernel
theorem d_Mod_gather_133 : decode b_Mod_gather 133 = .ok (.invokevirtual 155, 3) := by decide +kernel
theorem d_Mod_gather_136 : decode b_Mod_gather 136 = .ok (.iload_n 2, 1) := by decide +kernel
theorem d_Mod_gather_137 : decode b_Mod_gather 137 = .ok (.if_icmp .ne 24, 3) := by decide +kernel
theorem d_Mod_gather_140 : decode b_Mod_gather 140 = .ok (.aload_n 0, 1) := by decide +kernel
theorem d_Mod_gather_141 : decode b_Mod_gather 141 = .ok (.getfield 74, 3) := by decide +kernel
theorem d_Mod_gather_144 : decode b_Mod_gather 144 = .ok (.iload 5, 2) := by decide +kernel
theorem d_Mod_gather_146 : decode b_Mod_gather 146 = .ok (.iaload, 1) := by decide +kernel
theorem d_Mod_gather_147 : decode b_Mod_gather 147 = .ok (.iload_n 3, 1) := by decide +kernel
theorem d_Mod_gather_148 : decode b_Mod_gather 148 = .ok (.invokestatic 158, 3) := by decide +kernel
theorem d_Mod_gather_151 : decode b_Mod_gather 151 = .ok (.ifCond .eq 10, 3) := by decide +kernel
theorem d_Mod_gather_154 : decode b_Mod_gather 154 = .ok (.aload_n 0, 1) := by decide +kernel
theorem d_Mod_gather_155 : decode b_Mod_gather 155 = .ok (.iconst 1, 1) := by decide +kernel
theorem d_Mod_gather_156 : decode b_Mod_gather 156 = .ok (.iload 5, 2) := by decide +kernel
theorem d_Mod_gather_158 : decode b_Mod_gather 158 = .ok (.invokevirtual 168, 3) := by decide +kernel
theorem d_Mod_gather_161 : decode b_Mod_gather 161 = .ok (.iinc 5 1, 3) := by decide +kernel
theorem d_Mod_gather_164 : decode b_Mod_gather 164 = .ok (.goto (-92), 3) := by decide +kernel
theorem d_Mod_gather_167 : decode b_Mod_gather 167 = .ok (.iconst 0, 1) := by decide +kernel
theorem d_Mod_gather_168 : decode b_Mod_gather 168 = .ok (.istore 5, 2) := by decide +kernel
theorem d_Mod_gather_170 : decode b_Mod_gather 170 = .ok (.iload 5, 2) := by decide +kernel
theorem d_Mod_gather_172 : decode b_Mod_gather 172 = .ok (.iconst 2, 1) := by decide +kernel
theorem d_Mod_gather_173 : decode b_Mod_gather 173 = .ok (.aload_n 0, 1) := by decide +kernel
theorem d_Mod_gather_174 : decode b_Mod_gather 174 = .ok (.getfield 149, 3) := by decide +kernel
theorem d_Mod_gather_177 : decode b_Mod_gather 177 = .ok (.imul, 1) := by decide +kernel
theorem d_Mod_gather_178 : decode b_Mod_gather 178 = .ok (.if_icmp .ge 90, 3) := by decide +kernel
theorem d_Mod_gather_181 : decode b_Mod_gather 181 = .ok (.iload 5, 2) := by decide +kernel
theorem d_Mod_gather_183 : decode b_Mod_gather 183 = .ok (.iconst 2, 1) := by decide +kernel
theorem d_Mod_gather_184 : decode b_Mod_gather 184 = .ok (.idiv, 1) := by decide +kernel
theorem d_Mod_gather_185 : decode b_Mod_gather 185 = .ok (.istore 6, 2) := by decide +kernel
theorem d_Mod_gather_187 : decode b_Mod_gather 187 = .ok (.aload_n 0, 1) := by decide +kernel
theorem d_Mod_gather_188 : decode b_Mod_gather 188 = .ok (.getfield 29, 3) := by decide +kernel
theorem d_Mod_gather_191 : decode b_Mod_gather 191 = .ok (.iload_n 1, 1) := by decide +kernel
theorem d_Mod_gather_192 : decode b_Mod_gather 192 = .ok (.baload, 1) := by decide +kernel
theorem d_Mod_gather_193 : decode b_Mod_gather 193 = .ok (.ifCond .eq 69, 3) := by decide +kernel
theorem d_Mod_gather_196 : decode b_Mod_gather 196 = .ok (.aload_n 0, 1) := by decide +kernel
theorem d_Mod_gather_197 : decode b_Mod_gather 197 = .ok (.getfield 35, 3) := by decide +kernel
theorem d_Mod_gather_200 : decode b_Mod_gather 200 = .ok (.iload 6, 2) := by decide +kernel
theorem d_Mod_gather_202 : decode b_Mod_gather 202 = .ok (.iaload, 1) := by decide +kernel
theorem d_Mod_gather_203 : decode b_Mod_gather 203 = .ok (.iload 4, 2) := by decide +kernel
theorem d_Mod_gather_205 : decode b_Mod_gather 205 = .ok (.if_icmp .ne 57, 3) := by decide +kernel
theorem d_Mod_gather_208 : decode b_Mod_gather 208 = .ok (.aload_n 0, 1) := by decide +kernel
theorem d_Mod_gather_209 : decode b_Mod_gather 209 = .ok (.getfield 41, 3) := by decide +kernel
theorem d_Mod_gather_212 : decode b_Mod_gather 212 = .ok (.iload 6, 2) := by decide +kernel
theorem d_Mod_gather_214 : decode b_Mod_gather 214 = .ok (.baload, 1) := by decide +kernel
theorem d_Mod_gather_215 : decode b_Mod_gather 215 = .ok (.ifCond .eq 47, 3) := by decide +kernel
theorem d_Mod_gather_218 : decode b_Mod_gather 218 = .ok (.aload_n 0, 1) := by decide +kernel
theorem d_Mod_gather_219 : decode b_Mod_gather 219 = .ok (.iload 6, 2) := by decide +kernel
theorem d_Mod_gather_221 : decode b_Mod_gather 221 = .ok (.invokevirtual 152, 3) := by decide +kernel
theorem d_Mod_gather_224 : decode b_Mod_gather 224 = .ok (.ifCond .eq 38, 3) := by decide +kernel
theorem d_Mod_gather_227 : decode b_Mod_gather 227 = .ok (.aload_n 0, 1) := by decide +kernel
theorem d_Mod_gather_228 : decode b_Mod_gather 228 = .ok (.iload 6, 2) := by decide +kernel
theorem d_Mod_gather_230 : decode b_Mod_gather 230 = .ok (.iload 5, 2) := by decide +kernel
theorem d_Mod_gather_232 : decode b_Mod_gather 232 = .ok (.iconst 2, 1) := by decide +kernel
theorem d_Mod_gather_233 : decode b_Mod_gather 233 = .ok (.irem, 1) := by decide +kernel
theorem d_Mod_gather_234 : decode b_Mod_gather 234 = .ok (.invokevirtual 155, 3) := by decide +kernel
theorem d_Mod_gather_237 : decode b_Mod_gather 237 = .ok (.iload_n 2, 1) := by decide +kernel
theorem d_Mod_gather_238 : decode b_Mod_gather 238 = .ok (.if_icmp .ne 24, 3) := by decide +kernel
theorem d_Mod_gather_241 : decode b_Mod_gather 241 = .ok (.aload_n 0, 1) := by decide +kernel
theorem d_Mod_gather_242 : decode b_Mod_gather 242 = .ok (.getfield 74, 3) := by decide +kernel
theorem d_Mod_gather_245 : decode b_Mod_gather 245 = .ok (.iload 5, 2) := by decide +kernel
theorem d_Mod_gather_247 : decode b_Mod_gather 247 = .ok (.iaload, 1) := by decide +kernel
theorem d_Mod_gather_248 : decode b_Mod_gather 248 = .ok (.iload_n 3, 1) := by decide +kernel
theorem d_Mod_gather_249 : decode b_Mod_gather 249 = .ok (.invokestatic 158, 3) := by decide +kernel
theorem d_Mod_gather_252 : decode b_Mod_gather 252 = .ok (.ifCond .eq 10, 3) := by decide +kernel
theorem d_Mod_gather_255 : decode b_Mod_gather 255 = .ok (.aload_n 0, 1) := by decide +kernel
theorem d_Mod_gather_256 : decode b_Mod_gather 256 = .ok (.iconst 2, 1) := by decide +kernel
theorem d_Mod_gather_257 : decode b_Mod_gather 257 = .ok (.iload 5, 2) := by decide +kernel
theorem d_Mod_gather_259 : decode b_Mod_gather 259 = .ok (.invokevirtual 168, 3) := by decide +kernel
theorem d_Mod_gather_262 : decode b_Mod_gather 262 = .ok (.iinc 5 1, 3) := by decide +kernel
theorem d_Mod_gather_265 : decode b_Mod_gather 265 = .ok (.goto (-95), 3) := by decide +kernel
theorem d_Mod_gather_268 : decode b_Mod_gather 268 = .ok (.iconst 3, 1) := by decide +kernel
theorem d_Mod_gather_269 : decode b_Mod_gather 269 = .ok (.istore 5, 2) := by decide +kernel
theorem d_Mod_gather_271 : decode b_Mod_gather 271 = .ok (.iload 5, 2) := by decide +kernel
theorem d_Mod_gather_273 : decode b_Mod_gather 273 = .ok (.bipush 6, 2) := by decide +kernel
theorem d_Mod_gather_275 : decode b_Mod_gather 275 = .ok (.if_icmp .ge 57, 3) := by decide +kernel
theorem d_Mod_gather_278 : decode b_Mod_gather 278 = .ok (.iconst 0, 1) := by decide +kernel
theorem d_Mod_gather_279 : decode b_Mod_gather 279 = .ok (.istore 6, 2) := by decide +kernel
theorem d_Mod_gather_281 : decode b_Mod_gather 281 = .ok (.iload 6, 2) := by decide +kernel
theorem d_Mod_gather_283 : decode b_Mod_gather 283 = .ok (.iconst 2, 1) := by decide +kernel
theorem d_Mod_gather_284 : decode b_Mod_gather 284 = .ok (.aload_n 0, 1) := by decide +kernel
theorem d_Mod_gather_285 : decode b_Mod_gather 285 = .ok (.getfield 162, 3) := by decide +kernel
theorem d_Mod_gather_288 : decode b_Mod_gather 288 = .ok (.imul, 1) := by decide +kernel
theorem d_Mod_gather_289 : decode b_Mod_gather 289 = .ok (.if_icmp .ge 37, 3) := by decide +kernel
theorem d_Mod_gather_292 : decode b_Mod_gather 292 = .ok (.aload_n 0, 1) := by decide +kernel
theorem d_Mod_gather_293 : decode b_Mod_gather 293 = .ok (.iload 6, 2) := by decide +kernel
theorem d_Mod_gather_295 : decode b_Mod_gather 295 = .ok (.iconst 2, 1) := by decide +kernel
theorem d_Mod_gather_296 : decode b_Mod_gather 296 = .ok (.idiv, 1) := by decide +kernel
theorem d_Mod_gather_297 : decode b_Mod_gather 297 = .ok (.iload 6, 2) := by decide +kernel
theorem d_Mod_gather_299 : decode b_Mod_gather 299 = .ok (.iconst 2, 1) := by decide +kernel
theorem d_Mod_gather_300 : decode b_Mod_gather 300 = .ok (.irem, 1) := by decide +kernel
theorem d_Mod_gather_301 : decode b_Mod_gather 301 = .ok (.iload 5, 2) := by decide +kernel
theorem d_Mod_gather_303 : decode b_Mod_gather 303 = .ok (.iload_n 1, 1) := by decide +kernel
theorem d_Mod_gather_304 : decode b_Mod_gather 304 = .ok (.iload_n 2, 1) := by decide +kernel
theorem d_Mod_gather_305 : decode b_Mod_gather 305 = .ok (.iload_n 3, 1) := by decide +kernel
theorem d_Mod_gather_306 : decode b_Mod_gather 306 = .ok (.invokevirtual 175, 3) := by decide +kernel
theorem d_Mod_gather_309 : decode b_Mod_gather 309 = .ok (.ifCond .eq 11, 3) := by decide +kernel
theorem d_Mod_gather_312 : decode b_Mod_gather 312 = .ok (.aload_n 0, 1) := by decide +kernel
theorem d_Mod_gather_313 : decode b_Mod_gather 313 = .ok (.iload 5, 2) := by decide +kernel
theorem d_Mod_gather_315 : decode b_Mod_gather 315 = .ok (.iload 6, 2) := by decide +kernel
theorem d_Mod_gather_317 : decode b_Mod_gather 317 = .ok (.invokevirtual 168, 3) := by decide +kernel
theorem d_Mod_gather_320 : decode b_Mod_gather 320 = .ok (.iinc 6 1, 3) := by decide +kernel
theorem d_Mod_gather_323 : decode b_Mod_gather 323 = .ok (.goto (-42), 3) := by decide +kernel
theorem d_Mod_gather_326 : decode b_Mod_gather 326 = .ok (.iinc 5 1, 3) := by decide +kernel
theorem d_Mod_gather_329 : decode b_Mod_gather 329 = .ok (.goto (-58), 3) := by decide +kernel
theorem d_Mod_gather_332 : decode b_Mod_gather 332 = .ok (.iconst 1, 1) := by decide +kernel
theorem d_Mod_gather_333 : decode b_Mod_gather 333 = .ok (.iload_n 2, 1) := by decide +kernel
theorem d_Mod_gather_334 : decode b_Mod_gather 334 = .ok (.isub, 1) := by decide +kernel
theorem d_Mod_gather_335 : decode b_Mod_gather 335 = .ok (.istore 5, 2) := by decide +kernel
theorem d_Mod_gather_337 : decode b_Mod_gather 337 = .ok (.aload_n 0, 1) := by decide +kernel
theorem d_Mod_gather_338 : decode b_Mod_gather 338 = .ok (.getfield 7, 3) := by decide +kernel
theorem d_Mod_gather_341 : decode b_Mod_gather 341 = .ok (.iload 4, 2) := by decide +kernel
theorem d_Mod_gather_343 : decode b_Mod_gather 343 = .ok (.baload, 1) := by decide +kernel
theorem d_Mod_gather_344 : decode b_Mod_gather 344 = .ok (.ifCond .ne 51, 3) := by decide +kernel
theorem d_Mod_gather_347 : decode b_Mod_gather 347 = .ok (.aload_n 0, 1) := by decide +kernel
theorem d_Mod_gather_348 : decode b_Mod_gather 348 = .ok (.getfield 77, 3) := by decide +kernel
theorem d_Mod_gather_351 : decode b_Mod_gather 351 = .ok (.iconst 2, 1) := by decide +kernel
theorem d_Mod_gather_352 : decode b_Mod_gather 352 = .ok (.iload_n 1, 1) := by decide +kernel
theorem d_Mod_gather_353 : decode b_Mod_gather 353 = .ok (.imul, 1) := by decide +kernel
theorem d_Mod_gather_354 : decode b_Mod_gather 354 = .ok (.iload 5, 2) := by decide +kernel
theorem d_Mod_gather_356 : decode b_Mod_gather 356 = .ok (.iadd, 1) := by decide +kernel
theorem d_Mod_gather_357 : decode b_Mod_gather 357 = .ok (.iaload, 1) := by decide +kernel
theorem d_Mod_gather_358 : decode b_Mod_gather 358 = .ok (.iload_n 3, 1) := by decide +kernel
theorem d_Mod_gather_359 : decode b_Mod_gather 359 = .ok (.invokestatic 158, 3) := by decide +kernel
theorem d_Mod_gather_362 : decode b_Mod_gather 362 = .ok (.ifCond .eq 33, 3) := by decide +kernel
theorem d_Mod_gather_365 : decode b_Mod_gather 365 = .ok (.aload_n 0, 1) := by decide +kernel
theorem d_Mod_gather_366 : decode b_Mod_gather 366 = .ok (.getfield 71, 3) := by decide +kernel
theorem d_Mod_gather_369 : decode b_Mod_gather 369 = .ok (.iconst 2, 1) := by decide +kernel
theorem d_Mod_gather_370 : decode b_Mod_gather 370 = .ok (.iload 4, 2) := by decide +kernel
theorem d_Mod_gather_372 : decode b_Mod_gather 372 = .ok (.imul, 1) := by decide +kernel
theorem d_Mod_gather_373 : decode b_Mod_gather 373 = .ok (.iload_n 2, 1) := by decide +kernel
theorem d_Mod_gather_374 : decode b_Mod_gather 374 = .ok (.iadd, 1) := by decide +kernel
theorem d_Mod_gather_375 : decode b_Mod_gather 375 = .ok (.iaload, 1) := by decide +kernel
theorem d_Mod_gather_376 : decode b_Mod_gather 376 = .ok (.iload_n 3, 1) := by decide +kernel
theorem d_Mod_gather_377 : decode b_Mod_gather 377 = .ok (.invokestatic 158, 3) := by decide +kernel
theorem d_Mod_gather_380 : decode b_Mod_gather 380 = .ok (.ifCond .eq 15, 3) := by decide +kernel
theorem d_Mod_gather_383 : decode b_Mod_gather 383 = .ok (.aload_n 0, 1) := by decide +kernel
theorem d_Mod_gather_384 : decode b_Mod_gather 384 = .ok (.bipush 6, 2) := by decide +kernel
theorem d_Mod_gather_386 : decode b_Mod_gather 386 = .ok (.iconst 2, 1) := by decide +kernel
theorem d_Mod_gather_387 : decode b_Mod_gather 387 = .ok (.iload_n 1, 1) := by decide +kernel
theorem d_Mod_gather_388 : decode b_Mod_gather 388 = .ok (.imul, 1) := by decide +kernel
theorem d_Mod_gather_389 : decode b_Mod_gather 389 = .ok (.iload 5, 2) := by decide +kernel
theorem d_Mod_gather_391 : decode b_Mod_gather 391 = .ok (.iadd, 1) := by decide +kernel
theorem d_Mod_gather_392 : decode b_Mod_gather 392 = .ok (.invokevirtual 168, 3) := by decide +kernel
theorem d_Mod_gather_395 : decode b_Mod_gather 395 = .ok (.return_, 1) := by decide +kernel
theorem d_Mod_comesOn_0 : decode b_Mod_comesOn 0 = .ok (.aload_n 0, 1) := by decide +kernel
theorem d_Mod_comesOn_1 : decode b_Mod_comesOn 1 = .ok (.iload_n 1, 1) := by decide +kernel
theorem d_Mod_comesOn_2 : decode b_Mod_comesOn 2 = .ok (.iload_n 2, 1) := by decide +kernel
theorem d_Mod_comesOn_3 : decode b_Mod_comesOn 3 = .ok (.iload_n 3, 1) := by decide +kernel
theorem d_Mod_comesOn_4 : decode b_Mod_comesOn 4 = .ok (.invokevirtual 179, 3) := by decide +kernel
theorem d_Mod_comesOn_7 : decode b_Mod_comesOn 7 = .ok (.aload_n 0, 1) := by decide +kernel
theorem d_Mod_comesOn_8 : decode b_Mod_comesOn 8 = .ok (.getfield 165, 3) := by decide +kernel
theorem d_Mod_comesOn_11 : decode b_Mod_comesOn 11 = .ok (.ifCond .le 7, 3) := by decide +kernel
theorem d_Mod_comesOn_14 : decode b_Mod_comesOn 14 = .ok (.iconst 1, 1) := by decide +kernel
theorem d_Mod_comesOn_15 : decode b_Mod_comesOn 15 = .ok (.goto 4, 3) := by decide +kernel
theorem d_Mod_comesOn_18 : decode b_Mod_comesOn 18 = .ok (.iconst 0, 1) := by decide +kernel
theorem d_Mod_comesOn_19 : decode b_Mod_comesOn 19 = .ok (.ireturn, 1) := by decide +kernel
theorem d_Mod_close_0 : decode b_Mod_close 0 = .ok (.iconst 0, 1) := by decide +kernel
theorem d_Mod_close_1 : decode b_Mod_close 1 = .ok (.istore_n 1, 1) := by decide +kernel
theorem d_Mod_close_2 : decode b_Mod_close 2 = .ok (.iload_n 1, 1) := by decide +kernel
theorem d_Mod_close_3 : decode b_Mod_close 3 = .ok (.bipush 20, 2) := by decide +kernel
theorem d_Mod_close_5 : decode b_Mod_close 5 = .ok (.if_icmp .ge 16, 3) := by decide +kernel
theorem d_Mod_close_8 : decode b_Mod_close 8 = .ok (.aload_n 0, 1) := by decide +kernel
theorem d_Mod_close_9 : decode b_Mod_close 9 = .ok (.getfield 71, 3) := by decide +kernel
theorem d_Mod_close_12 : decode b_Mod_close 12 = .ok (.iload_n 1, 1) := by decide +kernel
theorem d_Mod_close_13 : decode b_Mod_close 13 = .ok (.iconst 0, 1) := by decide +kernel
theorem d_Mod_close_14 : decode b_Mod_close 14 = .ok (.iastore, 1) := by decide +kernel
theorem d_Mod_close_15 : decode b_Mod_close 15 = .ok (.iinc 1 1, 3) := by decide +kernel
theorem d_Mod_close_18 : decode b_Mod_close 18 = .ok (.goto (-16), 3) := by decide +kernel
theorem d_Mod_close_21 : decode b_Mod_close 21 = .ok (.iconst 0, 1) := by decide +kernel
theorem d_Mod_close_22 : decode b_Mod_close 22 = .ok (.istore_n 1, 1) := by decide +kernel
theorem d_Mod_close_23 : decode b_Mod_close 23 = .ok (.iload_n 1, 1) := by decide +kernel
theorem d_Mod_close_24 : decode b_Mod_close 24 = .ok (.bipush 80, 2) := by decide +kernel
theorem d_Mod_close_26 : decode b_Mod_close 26 = .ok (.if_icmp .ge 16, 3) := by decide +kernel
theorem d_Mod_close_29 : decode b_Mod_close 29 = .ok (.aload_n 0, 1) := by decide +kernel
theorem d_Mod_close_30 : decode b_Mod_close 30 = .ok (.getfield 74, 3) := by decide +kernel
theorem d_Mod_close_33 : decode b_Mod_close 33 = .ok (.iload_n 1, 1) := by decide +kernel
theorem d_Mod_close_34 : decode b_Mod_close 34 = .ok (.iconst 0, 1) := by decide +kernel
theorem d_Mod_close_35 : decode b_Mod_close 35 = .ok (.iastore, 1) := by decide +kernel
theorem d_Mod_close_36 : decode b_Mod_close 36 = .ok (.iinc 1 1, 3) := by decide +kernel
theorem d_Mod_close_39 : decode b_Mod_close 39 = .ok (.goto (-16), 3) := by decide +kernel
theorem d_Mod_close_42 : decode b_Mod_close 42 = .ok (.iconst 0, 1) := by decide +kernel
theorem d_Mod_close_43 : decode b_Mod_close 43 = .ok (.istore_n 1, 1) := by decide +kernel
theorem d_Mod_close_44 : decode b_Mod_close 44 = .ok (.iload_n 1, 1) := by decide +kernel
theorem d_Mod_close_45 : decode b_Mod_close 45 = .ok (.bipush 120, 2) := by decide +kernel
theorem d_Mod_close_47 : decode b_Mod_close 47 = .ok (.if_icmp .ge 16, 3) := by decide +kernel
theorem d_Mod_close_50 : decode b_Mod_close 50 = .ok (.aload_n 0, 1) := by decide +kernel
theorem d_Mod_close_51 : decode b_Mod_close 51 = .ok (.getfield 77, 3) := by decide +kernel
theorem d_Mod_close_54 : decode b_Mod_close 54 = .ok (.iload_n 1, 1) := by decide +kernel
theorem d_Mod_close_55 : decode b_Mod_close 55 = .ok (.iconst 0, 1) := by decide +kernel
theorem d_Mod_close_56 : decode b_Mod_close 56 = .ok (.iastore, 1) := by decide +kernel
theorem d_Mod_close_57 : decode b_Mod_close 57 = .ok (.iinc 1 1, 3) := by decide +kernel
theorem d_Mod_close_60 : decode b_Mod_close 60 = .ok (.goto (-16), 3) := by decide +kernel
theorem d_Mod_close_63 : decode b_Mod_close 63 = .ok (.iconst 0, 1) := by decide +kernel
theorem d_Mod_close_64 : decode b_Mod_close 64 = .ok (.istore_n 1, 1) := by decide +kernel
theorem d_Mod_close_65 : decode b_Mod_close 65 = .ok (.iconst 1, 1) := by decide +kernel
theorem d_Mod_close_66 : decode b_Mod_close 66 = .ok (.istore_n 2, 1) := by decide +kernel
theorem d_Mod_close_67 : decode b_Mod_close 67 = .ok (.iload_n 2, 1) := by decide +kernel
theorem d_Mod_close_68 : decode b_Mod_close 68 = .ok (.ifCond .eq 170, 3) := by decide +kernel
theorem d_Mod_close_71 : decode b_Mod_close 71 = .ok (.iinc 1 1, 3) := by decide +kernel
theorem d_Mod_close_74 : decode b_Mod_close 74 = .ok (.iconst 0, 1) := by decide +kernel
theorem d_Mod_close_75 : decode b_Mod_close 75 = .ok (.istore_n 2, 1) := by decide +kernel
theorem d_Mod_close_76 : decode b_Mod_close 76 = .ok (.iconst 0, 1) := by decide +kernel
theorem d_Mod_close_77 : decode b_Mod_close 77 = .ok (.istore_n 3, 1) := by decide +kernel
theorem d_Mod_close_78 : decode b_Mod_close 78 = .ok (.iload_n 3, 1) := by decide +kernel
theorem d_Mod_close_79 : decode b_Mod_close 79 = .ok (.iconst 2, 1) := by decide +kernel
theorem d_Mod_close_80 : decode b_Mod_close 80 = .ok (.aload_n 0, 1) := by decide +kernel
theorem d_Mod_close_81 : decode b_Mod_close 81 = .ok (.getfield 183, 3) := by decide +kernel
theorem d_Mod_close_84 : decode b_Mod_close 84 = .ok (.imul, 1) := by decide +kernel
theorem d_Mod_close_85 : decode b_Mod_close 85 = .ok (.if_icmp .ge 44, 3) := by decide +kernel
theorem d_Mod_close_88 : decode b_Mod_close 88 = .ok (.aload_n 0, 1) := by decide +kernel
theorem d_Mod_close_89 : decode b_Mod_close 89 = .ok (.getfield 71, 3) := by decide +kernel
theorem d_Mod_close_92 : decode b_Mod_close 92 = .ok (.iload_n 3, 1) := by decide +kernel
theorem d_Mod_close_93 : decode b_Mod_close 93 = .ok (.iaload, 1) := by decide +kernel
theorem d_Mod_close_94 : decode b_Mod_close 94 = .ok (.ifCond .gt 29, 3) := by decide +kernel
theorem d_Mod_close_97 : decode b_Mod_close 97 = .ok (.aload_n 0, 1) := by decide +kernel
theorem d_Mod_close_98 : decode b_Mod_close 98 = .ok (.iload_n 3, 1) := by decide +kernel
theorem d_Mod_close_99 : decode b_Mod_close 99 = .ok (.iconst 2, 1) := by decide +kernel
theorem d_Mod_close_100 : decode b_Mod_close 100 = .ok (.idiv, 1) := by decide +kernel
theorem d_Mod_close_101 : decode b_Mod_close 101 = .ok (.iload_n 3, 1) := by decide +kernel
theorem d_Mod_close_102 : decode b_Mod_close 102 = .ok (.iconst 2, 1) := by decide +kernel
theorem d_Mod_close_103 : decode b_Mod_close 103 = .ok (.irem, 1) := by decide +kernel
theorem d_Mod_close_104 : decode b_Mod_close 104 = .ok (.iload_n 1, 1) := by decide +kernel
theorem d_Mod_close_105 : decode b_Mod_close 105 = .ok (.invokevirtual 186, 3) := by decide +kernel
theorem d_Mod_close_108 : decode b_Mod_close 108 = .ok (.ifCond .ne 6, 3) := by decide +kernel
theorem d_Mod_close_111 : decode b_Mod_close 111 = .ok (.goto 12, 3) := by decide +kernel
theorem d_Mod_close_114 : decode b_Mod_close 114 = .ok (.aload_n 0, 1) := by decide +kernel
theorem d_Mod_close_115 : decode b_Mod_close 115 = .ok (.getfield 71, 3) := by decide +kernel
theorem d_Mod_close_118 : decode b_Mod_close 118 = .ok (.iload_n 3, 1) := by decide +kernel
theorem d_Mod_close_119 : decode b_Mod_close 119 = .ok (.iload_n 1, 1) := by decide +kernel
theorem d_Mod_close_120 : decode b_Mod_close 120 = .ok (.iastore, 1) := by decide +kernel
theorem d_Mod_close_121 : decode b_Mod_close 121 = .ok (.iconst 1, 1) := by decide +kernel
theorem d_Mod_close_122 : decode b_Mod_close 122 = .ok (.istore_n 2, 1) := by decide +kernel
theorem d_Mod_close_123 : decode b_Mod_close 123 = .ok (.iinc 3 1, 3) := by decide +kernel
theorem d_Mod_close_126 : decode b_Mod_close 126 = .ok (.goto (-48), 3) := by decide +kernel
theorem d_Mod_close_129 : decode b_Mod_close 129 = .ok (.iconst 0, 1) := by decide +kernel
theorem d_Mod_close_130 : decode b_Mod_close 130 = .ok (.istore_n 3, 1) := by decide +kernel
theorem d_Mod_close_131 : decode b_Mod_close 131 = .ok (.iload_n 3, 1) := by decide +kernel
theorem d_Mod_close_132 : decode b_Mod_close 132 = .ok (.iconst 2, 1) := by decide +kernel
theorem d_Mod_close_133 : decode b_Mod_close 133 = .ok (.aload_n 0, 1) := by decide +kernel
theorem d_Mod_close_134 : decode b_Mod_close 134 = .ok (.getfield 149, 3) := by decide +kernel
theorem d_Mod_close_137 : decode b_Mod_close 137 = .ok (.imul, 1) := by decide +kernel
theorem d_Mod_close_138 : decode b_Mod_close 138 = .ok (.if_icmp .ge 44, 3) := by decide +kernel
theorem d_Mod_close_141 : decode b_Mod_close 141 = .ok (.aload_n 0, 1) := by decide +kernel
theorem d_Mod_close_142 : decode b_Mod_close 142 = .ok (.getfield 74, 3) := by decide +kernel
theorem d_Mod_close_145 : decode b_Mod_close 145 = .ok (.iload_n 3, 1) := by decide +kernel
theorem d_Mod_close_146 : decode b_Mod_close 146 = .ok (.iaload, 1) := by decide +kernel
theorem d_Mod_close_147 : decode b_Mod_close 147 = .ok (.ifCond .gt 29, 3) := by decide +kernel
theorem d_Mod_close_150 : decode b_Mod_close 150 = .ok (.aload_n 0, 1) := by decide +kernel
theorem d_Mod_close_151 : decode b_Mod_close 151 = .ok (.iload_n 3, 1) := by decide +kernel
theorem d_Mod_close_152 : decode b_Mod_close 152 = .ok (.iconst 2, 1) := by decide +kernel
theorem d_Mod_close_153 : decode b_Mod_close 153 = .ok (.idiv, 1) := by decide +kernel
theorem d_Mod_close_154 : decode b_Mod_close 154 = .ok (.iload_n 3, 1) := by decide +kernel
theorem d_Mod_close_155 : decode b_Mod_close 155 = .ok (.iconst 2, 1) := by decide +kernel
theorem d_Mod_close_156 : decode b_Mod_close 156 = .ok (.irem, 1) := by decide +kernel
theorem d_Mod_close_157 : decode b_Mod_close 157 = .ok (.iload_n 1, 1) := by decide +kernel
theorem d_Mod_close_158 : decode b_Mod_close 158 = .ok (.invokevirtual 190, 3) := by decide +kernel
theorem d_Mod_close_161 : decode b_Mod_close 161 = .ok (.ifCond .ne 6, 3) := by decide +kernel
theorem d_Mod_close_164 : decode b_Mod_close 164 = .ok (.goto 12, 3) := by decide +kernel
theorem d_Mod_close_167 : decode b_Mod_close 167 = .ok (.aload_n 0, 1) := by decide +kernel
theorem d_Mod_close_168 : decode b_Mod_close 168 = .ok (.getfield 74, 3) := by decide +kernel
theorem d_Mod_close_171 : decode b_Mod_close 171 = .ok (.iload_n 3, 1) := by decide +kernel
theorem d_Mod_close_172 : decode b_Mod_close 172 = .ok (.iload_n 1, 1) := by decide +kernel
theorem d_Mod_close_173 : decode b_Mod_close 173 = .ok (.iastore, 1) := by decide +kernel
theorem d_Mod_close_174 : decode b_Mod_close 174 = .ok (.iconst 1, 1) := by decide +kernel
theorem d_Mod_close_175 : decode b_Mod_close 175 = .ok (.istore_n 2, 1) := by decide +kernel
theorem d_Mod_close_176 : decode b_Mod_close 176 = .ok (.iinc 3 1, 3) := by decide +kernel
theorem d_Mod_close_179 : decode b_Mod_close 179 = .ok (.goto (-48), 3) := by decide +kernel
theorem d_Mod_close_182 : decode b_Mod_close 182 = .ok (.iconst 0, 1) := by decide +kernel
theorem d_Mod_close_183 : decode b_Mod_close 183 = .ok (.istore_n 3, 1) := by decide +kernel
theorem d_Mod_close_184 : decode b_Mod_close 184 = .ok (.iload_n 3, 1) := by decide +kernel
theorem d_Mod_close_185 : decode b_Mod_close 185 = .ok (.iconst 2, 1) := by decide +kernel
theorem d_Mod_close_186 : decode b_Mod_close 186 = .ok (.aload_n 0, 1) := by decide +kernel
theorem d_Mod_close_187 : decode b_Mod_close 187 = .ok (.getfield 193, 3) := by decide +kernel
theorem d_Mod_close_190 : decode b_Mod_close 190 = .ok (.imul, 1) := by decide +kernel
theorem d_Mod_close_191 : decode b_Mod_close 191 = .ok (.if_icmp .ge 44, 3) := by decide +kernel
theorem d_Mod_close_194 : decode b_Mod_close 194 = .ok (.aload_n 0, 1) := by decide +kernel
theorem d_Mod_close_195 : decode b_Mod_close 195 = .ok (.getfield 77, 3) := by decide +kernel
theorem d_Mod_close_198 : decode b_Mod_close 198 = .ok (.iload_n 3, 1) := by decide +kernel
theorem d_Mod_close_199 : decode b_Mod_close 199 = .ok (.iaload, 1) := by decide +kernel
theorem d_Mod_close_200 : decode b_Mod_close 200 = .ok (.ifCond .gt 29, 3) := by decide +kernel
theorem d_Mod_close_203 : decode b_Mod_close 203 = .ok (.aload_n 0, 1) := by decide +kernel
theorem d_Mod_close_204 : decode b_Mod_close 204 = .ok (.iload_n 3, 1) := by decide +kernel
theorem d_Mod_close_205 : decode b_Mod_close 205 = .ok (.iconst 2, 1) := by decide +kernel
theorem d_Mod_close_206 : decode b_Mod_close 206 = .ok (.idiv, 1) := by decide +kernel
theorem d_Mod_close_207 : decode b_Mod_close 207 = .ok (.iload_n 3, 1) := by decide +kernel
theorem d_Mod_close_208 : decode b_Mod_close 208 = .ok (.iconst 2, 1) := by decide +kernel
theorem d_Mod_close_209 : decode b_Mod_close 209 = .ok (.irem, 1) := by decide +kernel
theorem d_Mod_close_210 : decode b_Mod_close 210 = .ok (.iload_n 1, 1) := by decide +kernel
theorem d_Mod_close_211 : decode b_Mod_close 211 = .ok (.invokevirtual 196, 3) := by decide +kernel
theorem d_Mod_close_214 : decode b_Mod_close 214 = .ok (.ifCond .ne 6, 3) := by decide +kernel
theorem d_Mod_close_217 : decode b_Mod_close 217 = .ok (.goto 12, 3) := by decide +kernel
theorem d_Mod_close_220 : decode b_Mod_close 220 = .ok (.aload_n 0, 1) := by decide +kernel
theorem d_Mod_close_221 : decode b_Mod_close 221 = .ok (.getfield 77, 3) := by decide +kernel
theorem d_Mod_close_224 : decode b_Mod_close 224 = .ok (.iload_n 3, 1) := by decide +kernel
theorem d_Mod_close_225 : decode b_Mod_close 225 = .ok (.iload_n 1, 1) := by decide +kernel
theorem d_Mod_close_226 : decode b_Mod_close 226 = .ok (.iastore, 1) := by decide +kernel
theorem d_Mod_close_227 : decode b_Mod_close 227 = .ok (.iconst 1, 1) := by decide +kernel
theorem d_Mod_close_228 : decode b_Mod_close 228 = .ok (.istore_n 2, 1) := by decide +kernel
theorem d_Mod_close_229 : decode b_Mod_close 229 = .ok (.iinc 3 1, 3) := by decide +kernel
theorem d_Mod_close_232 : decode b_Mod_close 232 = .ok (.goto (-48), 3) := by decide +kernel
theorem d_Mod_close_235 : decode b_Mod_close 235 = .ok (.goto (-168), 3) := by decide +kernel
theorem d_Mod_close_238 : decode b_Mod_close 238 = .ok (.iload_n 1, 1) := by decide +kernel
theorem d_Mod_close_239 : decode b_Mod_close 239 = .ok (.iconst 1, 1) := by decide +kernel
theorem d_Mod_close_240 : decode b_Mod_close 240 = .ok (.isub, 1) := by decide +kernel
theorem d_Mod_close_241 : decode b_Mod_close 241 = .ok (.ireturn, 1) := by decide +kernel
theorem d_Mod_run_0 : decode b_Mod_run 0 = .ok (.aload_n 0, 1) := by decide +kernel
theorem d_Mod_run_1 : decode b_Mod_run 1 = .ok (.iconst 0, 1) := by decide +kernel
theorem d_Mod_run_2 : decode b_Mod_run 2 = .ok (.putfield 102, 3) := by decide +kernel
theorem d_Mod_run_5 : decode b_Mod_run 5 = .ok (.iload_n 1, 1) := by decide +kernel
theorem d_Mod_run_6 : decode b_Mod_run 6 = .ok (.ifCond .lt 9, 3) := by decide +kernel
theorem d_Mod_run_9 : decode b_Mod_run 9 = .ok (.iload_n 1, 1) := by decide +kernel
theorem d_Mod_run_10 : decode b_Mod_run 10 = .ok (.bipush 8, 2) := by decide +kernel
theorem d_Mod_run_12 : decode b_Mod_run 12 = .ok (.if_icmp .lt 5, 3) := by decide +kernel
theorem d_Mod_run_15 : decode b_Mod_run 15 = .ok (.iconst (-1), 1) := by decide +kernel
theorem d_Mod_run_16 : decode b_Mod_run 16 = .ok (.ireturn, 1) := by decide +kernel
theorem d_Mod_run_17 : decode b_Mod_run 17 = .ok (.aload_n 0, 1) := by decide +kernel
theorem d_Mod_run_18 : decode b_Mod_run 18 = .ok (.iload_n 1, 1) := by decide +kernel
theorem d_Mod_run_19 : decode b_Mod_run 19 = .ok (.putfield 146, 3) := by decide +kernel
theorem d_Mod_run_22 : decode b_Mod_run 22 = .ok (.aload_n 0, 1) := by decide +kernel
theorem d_Mod_run_23 : decode b_Mod_run 23 = .ok (.aload_n 0, 1) := by decide +kernel
theorem d_Mod_run_24 : decode b_Mod_run 24 = .ok (.getfield 105, 3) := by decide +kernel
theorem d_Mod_run_27 : decode b_Mod_run 27 = .ok (.putfield 183, 3) := by decide +kernel
theorem d_Mod_run_30 : decode b_Mod_run 30 = .ok (.aload_n 0, 1) := by decide +kernel
theorem d_Mod_run_31 : decode b_Mod_run 31 = .ok (.aload_n 0, 1) := by decide +kernel
theorem d_Mod_run_32 : decode b_Mod_run 32 = .ok (.getfield 111, 3) := by decide +kernel
theorem d_Mod_run_35 : decode b_Mod_run 35 = .ok (.putfield 193, 3) := by decide +kernel
theorem d_Mod_run_38 : decode b_Mod_run 38 = .ok (.aload_n 0, 1) := by decide +kernel
theorem d_Mod_run_39 : decode b_Mod_run 39 = .ok (.aload_n 0, 1) := by decide +kernel
theorem d_Mod_run_40 : decode b_Mod_run 40 = .ok (.getfield 108, 3) := by decide +kernel
theorem d_Mod_run_43 : decode b_Mod_run 43 = .ok (.putfield 149, 3) := by decide +kernel
theorem d_Mod_run_46 : decode b_Mod_run 46 = .ok (.aload_n 0, 1) := by decide +kernel
theorem d_Mod_run_47 : decode b_Mod_run 47 = .ok (.aload_n 0, 1) := by decide +kernel
theorem d_Mod_run_48 : decode b_Mod_run 48 = .ok (.getfield 133, 3) := by decide +kernel
theorem d_Mod_run_51 : decode b_Mod_run 51 = .ok (.putfield 172, 3) := by decide +kernel
theorem d_Mod_run_54 : decode b_Mod_run 54 = .ok (.aload_n 0, 1) := by decide +kernel
theorem d_Mod_run_55 : decode b_Mod_run 55 = .ok (.aload_n 0, 1) := by decide +kernel
theorem d_Mod_run_56 : decode b_Mod_run 56 = .ok (.getfield 143, 3) := by decide +kernel
theorem d_Mod_run_59 : decode b_Mod_run 59 = .ok (.putfield 162, 3) := by decide +kernel
theorem d_Mod_run_62 : decode b_Mod_run 62 = .ok (.iconst 0, 1) := by decide +kernel
theorem d_Mod_run_63 : decode b_Mod_run 63 = .ok (.istore_n 2, 1) := by decide +kernel
theorem d_Mod_run_64 : decode b_Mod_run 64 = .ok (.iload_n 2, 1) := by decide +kernel
theorem d_Mod_run_65 : decode b_Mod_run 65 = .ok (.bipush 10, 2) := by decide +kernel
theorem d_Mod_run_67 : decode b_Mod_run 67 = .ok (.if_icmp .ge 21, 3) := by decide +kernel
theorem d_Mod_run_70 : decode b_Mod_run 70 = .ok (.aload_n 0, 1) := by decide +kernel
theorem d_Mod_run_71 : decode b_Mod_run 71 = .ok (.getfield 68, 3) := by decide +kernel
theorem d_Mod_run_74 : decode b_Mod_run 74 = .ok (.iload_n 2, 1) := by decide +kernel
theorem d_Mod_run_75 : decode b_Mod_run 75 = .ok (.aload_n 0, 1) := by decide +kernel
theorem d_Mod_run_76 : decode b_Mod_run 76 = .ok (.getfield 13, 3) := by decide +kernel
theorem d_Mod_run_79 : decode b_Mod_run 79 = .ok (.iload_n 2, 1) := by decide +kernel
theorem d_Mod_run_80 : decode b_Mod_run 80 = .ok (.baload, 1) := by decide +kernel
theorem d_Mod_run_81 : decode b_Mod_run 81 = .ok (.bastore, 1) := by decide +kernel
theorem d_Mod_run_82 : decode b_Mod_run 82 = .ok (.iinc 2 1, 3) := by decide +kernel
theorem d_Mod_run_85 : decode b_Mod_run 85 = .ok (.goto (-21), 3) := by decide +kernel
theorem d_Mod_run_88 : decode b_Mod_run 88 = .ok (.aload_n 0, 1) := by decide +kernel
theorem d_Mod_run_89 : decode b_Mod_run 89 = .ok (.iconst 1, 1) := by decide +kernel
theorem d_Mod_run_90 : decode b_Mod_run 90 = .ok (.putfield 199, 3) := by decide +kernel
theorem d_Mod_run_93 : decode b_Mod_run 93 = .ok (.aload_n 0, 1) := by decide +kernel
theorem d_Mod_run_94 : decode b_Mod_run 94 = .ok (.iconst 0, 1) := by decide +kernel
theorem d_Mod_run_95 : decode b_Mod_run 95 = .ok (.putfield 114, 3) := by decide +kernel
theorem d_Mod_run_98 : decode b_Mod_run 98 = .ok (.aload_n 0, 1) := by decide +kernel
theorem d_Mod_run_99 : decode b_Mod_run 99 = .ok (.invokevirtual 202, 3) := by decide +kernel
theorem d_Mod_run_102 : decode b_Mod_run 102 = .ok (.istore_n 2, 1) := by decide +kernel
theorem d_Mod_run_103 : decode b_Mod_run 103 = .ok (.iconst 0, 1) := by decide +kernel
theorem d_Mod_run_104 : decode b_Mod_run 104 = .ok (.istore_n 3, 1) := by decide +kernel
theorem d_Mod_run_105 : decode b_Mod_run 105 = .ok (.iload_n 3, 1) := by decide +kernel
theorem d_Mod_run_106 : decode b_Mod_run 106 = .ok (.bipush 20, 2) := by decide +kernel
theorem d_Mod_run_108 : decode b_Mod_run 108 = .ok (.if_icmp .ge 21, 3) := by decide +kernel
theorem d_Mod_run_111 : decode b_Mod_run 111 = .ok (.aload_n 0, 1) := by decide +kernel
theorem d_Mod_run_112 : decode b_Mod_run 112 = .ok (.getfield 80, 3) := by decide +kernel
theorem d_Mod_run_115 : decode b_Mod_run 115 = .ok (.iload_n 3, 1) := by decide +kernel
theorem d_Mod_run_116 : decode b_Mod_run 116 = .ok (.aload_n 0, 1) := by decide +kernel
theorem d_Mod_run_117 : decode b_Mod_run 117 = .ok (.getfield 71, 3) := by decide +kernel
theorem d_Mod_run_120 : decode b_Mod_run 120 = .ok (.iload_n 3, 1) := by decide +kernel
theorem d_Mod_run_121 : decode b_Mod_run 121 = .ok (.iaload, 1) := by decide +kernel
theorem d_Mod_run_122 : decode b_Mod_run 122 = .ok (.iastore, 1) := by decide +kernel
theorem d_Mod_run_123 : decode b_Mod_run 123 = .ok (.iinc 3 1, 3) := by decide +kernel
theorem d_Mod_run_126 : decode b_Mod_run 126 = .ok (.goto (-21), 3) := by decide +kernel
theorem d_Mod_run_129 : decode b_Mod_run 129 = .ok (.iconst 0, 1) := by decide +kernel
theorem d_Mod_run_130 : decode b_Mod_run 130 = .ok (.istore_n 3, 1) := by decide +kernel
theorem d_Mod_run_131 : decode b_Mod_run 131 = .ok (.iload_n 3, 1) := by decide +kernel
theorem d_Mod_run_132 : decode b_Mod_run 132 = .ok (.bipush 80, 2) := by decide +kernel
theorem d_Mod_run_134 : decode b_Mod_run 134 = .ok (.if_icmp .ge 21, 3) := by decide +kernel
theorem d_Mod_run_137 : decode b_Mod_run 137 = .ok (.aload_n 0, 1) := by decide +kernel
theorem d_Mod_run_138 : decode b_Mod_run 138 = .ok (.getfield 83, 3) := by decide +kernel
theorem d_Mod_run_141 : decode b_Mod_run 141 = .ok (.iload_n 3, 1) := by decide +kernel
theorem d_Mod_run_142 : decode b_Mod_run 142 = .ok (.aload_n 0, 1) := by decide +kernel
theorem d_Mod_run_143 : decode b_Mod_run 143 = .ok (.getfield 74, 3) := by decide +kernel
theorem d_Mod_run_146 : decode b_Mod_run 146 = .ok (.iload_n 3, 1) := by decide +kernel
theorem d_Mod_run_147 : decode b_Mod_run 147 = .ok (.iaload, 1) := by decide +kernel
theorem d_Mod_run_148 : decode b_Mod_run 148 = .ok (.iastore, 1) := by decide +kernel
theorem d_Mod_run_149 : decode b_Mod_run 149 = .ok (.iinc 3 1, 3) := by decide +kernel
theorem d_Mod_run_152 : decode b_Mod_run 152 = .ok (.goto (-21), 3) := by decide +kernel
theorem d_Mod_run_155 : decode b_Mod_run 155 = .ok (.iconst 0, 1) := by decide +kernel
theorem d_Mod_run_156 : decode b_Mod_run 156 = .ok (.istore_n 3, 1) := by decide +kernel
theorem d_Mod_run_157 : decode b_Mod_run 157 = .ok (.iload_n 3, 1) := by decide +kernel
theorem d_Mod_run_158 : decode b_Mod_run 158 = .ok (.bipush 120, 2) := by decide +kernel
theorem d_Mod_run_160 : decode b_Mod_run 160 = .ok (.if_icmp .ge 21, 3) := by decide +kernel
theorem d_Mod_run_163 : decode b_Mod_run 163 = .ok (.aload_n 0, 1) := by decide +kernel
theorem d_Mod_run_164 : decode b_Mod_run 164 = .ok (.getfield 86, 3) := by decide +kernel
theorem d_Mod_run_167 : decode b_Mod_run 167 = .ok (.iload_n 3, 1) := by decide +kernel
theorem d_Mod_run_168 : decode b_Mod_run 168 = .ok (.aload_n 0, 1) := by decide +kernel
theorem d_Mod_run_169 : decode b_Mod_run 169 = .ok (.getfield 77, 3) := by decide +kernel
theorem d_Mod_run_172 : decode b_Mod_run 172 = .ok (.iload_n 3, 1) := by decide +kernel
theorem d_Mod_run_173 : decode b_Mod_run 173 = .ok (.iaload, 1) := by decide +kernel
theorem d_Mod_run_174 : decode b_Mod_run 174 = .ok (.iastore, 1) := by decide +kernel
theorem d_Mod_run_175 : decode b_Mod_run 175 = .ok (.iinc 3 1, 3) := by decide +kernel
theorem d_Mod_run_178 : decode b_Mod_run 178 = .ok (.goto (-21), 3) := by decide +kernel
theorem d_Mod_run_181 : decode b_Mod_run 181 = .ok (.iload_n 2, 1) := by decide +kernel
theorem d_Mod_run_182 : decode b_Mod_run 182 = .ok (.ireturn, 1) := by decide +kernel
theorem d_Mod_isSide_0 : decode b_Mod_isSide 0 = .ok (.iload_n 0, 1) := by decide +kernel
theorem d_Mod_isSide_1 : decode b_Mod_isSide 1 = .ok (.ifCond .eq 8, 3) := by decide +kernel
theorem d_Mod_isSide_4 : decode b_Mod_isSide 4 = .ok (.iload_n 0, 1) := by decide +kernel
theorem d_Mod_isSide_5 : decode b_Mod_isSide 5 = .ok (.iconst 1, 1) := by decide +kernel
theorem d_Mod_isSide_6 : decode b_Mod_isSide 6 = .ok (.if_icmp .ne 7, 3) := by decide +kernel
theorem d_Mod_isSide_9 : decode b_Mod_isSide 9 = .ok (.iconst 1, 1) := by decide +kernel
theorem d_Mod_isSide_10 : decode b_Mod_isSide 10 = .ok (.goto 4, 3) := by decide +kernel
theorem d_Mod_isSide_13 : decode b_Mod_isSide 13 = .ok (.iconst 0, 1) := by decide +kernel
theorem d_Mod_isSide_14 : decode b_Mod_isSide 14 = .ok (.ireturn, 1) := by decide +kernel
theorem d_Mod_there_0 : decode b_Mod_there 0 = .ok (.aload_n 0, 1) := by decide +kernel
theorem d_Mod_there_1 : decode b_Mod_there 1 = .ok (.iconst 0, 1) := by decide +kernel
theorem d_Mod_there_2 : decode b_Mod_there 2 = .ok (.putfield 102, 3) := by decide +kernel
theorem d_Mod_there_5 : decode b_Mod_there 5 = .ok (.iload_n 1, 1) := by decide +kernel
theorem d_Mod_there_6 : decode b_Mod_there 6 = .ok (.ifCond .lt 18, 3) := by decide +kernel
theorem d_Mod_there_9 : decode b_Mod_there 9 = .ok (.iload_n 1, 1) := by decide +kernel
theorem d_Mod_there_10 : decode b_Mod_there 10 = .ok (.aload_n 0, 1) := by decide +kernel
theorem d_Mod_there_11 : decode b_Mod_there 11 = .ok (.getfield 183, 3) := by decide +kernel
theorem d_Mod_there_14 : decode b_Mod_there 14 = .ok (.if_icmp .ge 10, 3) := by decide +kernel
theorem d_Mod_there_17 : decode b_Mod_there 17 = .ok (.iload_n 2, 1) := by decide +kernel
theorem d_Mod_there_18 : decode b_Mod_there 18 = .ok (.invokestatic 206, 3) := by decide +kernel
theorem d_Mod_there_21 : decode b_Mod_there 21 = .ok (.ifCond .ne 7, 3) := by decide +kernel
theorem d_Mod_there_24 : decode b_Mod_there 24 = .ok (.iconst 0, 1) := by decide +kernel
theorem d_Mod_there_25 : decode b_Mod_there 25 = .ok (.goto 13, 3) := by decide +kernel
theorem d_Mod_there_28 : decode b_Mod_there 28 = .ok (.aload_n 0, 1) := by decide +kernel
theorem d_Mod_there_29 : decode b_Mod_there 29 = .ok (.getfield 80, 3) := by decide +kernel
theorem d_Mod_there_32 : decode b_Mod_there 32 = .ok (.iconst 2, 1) := by decide +kernel
theorem d_Mod_there_33 : decode b_Mod_there 33 = .ok (.iload_n 1, 1) := by decide +kernel
theorem d_Mod_there_34 : decode b_Mod_there 34 = .ok (.imul, 1) := by decide +kernel
theorem d_Mod_there_35 : decode b_Mod_there 35 = .ok (.iload_n 2, 1) := by decide +kernel
theorem d_Mod_there_36 : decode b_Mod_there 36 = .ok (.iadd, 1) := by decide +kernel
theorem d_Mod_there_37 : decode b_Mod_there 37 = .ok (.iaload, 1) := by decide +kernel
theorem d_Mod_there_38 : decode b_Mod_there 38 = .ok (.ireturn, 1) := by decide +kernel
theorem d_Mod_live_0 : decode b_Mod_live 0 = .ok (.aload_n 0, 1) := by decide +kernel
theorem d_Mod_live_1 : decode b_Mod_live 1 = .ok (.iconst 0, 1) := by decide +kernel
theorem d_Mod_live_2 : decode b_Mod_live 2 = .ok (.putfield 102, 3) := by decide +kernel
theorem d_Mod_live_5 : decode b_Mod_live 5 = .ok (.iload_n 1, 1) := by decide +kernel
theorem d_Mod_live_6 : decode b_Mod_live 6 = .ok (.ifCond .lt 18, 3) := by decide +kernel
theorem d_Mod_live_9 : decode b_Mod_live 9 = .ok (.iload_n 1, 1) := by decide +kernel
theorem d_Mod_live_10 : decode b_Mod_live 10 = .ok (.aload_n 0, 1) := by decide +kernel
theorem d_Mod_live_11 : decode b_Mod_live 11 = .ok (.getfield 149, 3) := by decide +kernel
theorem d_Mod_live_14 : decode b_Mod_live 14 = .ok (.if_icmp .ge 10, 3) := by decide +kernel
theorem d_Mod_live_17 : decode b_Mod_live 17 = .ok (.iload_n 2, 1) := by decide +kernel
theorem d_Mod_live_18 : decode b_Mod_live 18 = .ok (.invokestatic 206, 3) := by decide +kernel
theorem d_Mod_live_21 : decode b_Mod_live 21 = .ok (.ifCond .ne 7, 3) := by decide +kernel
theorem d_Mod_live_24 : decode b_Mod_live 24 = .ok (.iconst 0, 1) := by decide +kernel
theorem d_Mod_live_25 : decode b_Mod_live 25 = .ok (.goto 13, 3) := by decide +kernel
theorem d_Mod_live_28 : decode b_Mod_live 28 = .ok (.aload_n 0, 1) := by decide +kernel
theorem d_Mod_live_29 : decode b_Mod_live 29 = .ok (.getfield 83, 3) := by decide +kernel
theorem d_Mod_live_32 : decode b_Mod_live 32 = .ok (.iconst 2, 1) := by decide +kernel
theorem d_Mod_live_33 : decode b_Mod_live 33 = .ok (.iload_n 1, 1) := by decide +kernel
theorem d_Mod_live_34 : decode b_Mod_live 34 = .ok (.imul, 1) := by decide +kernel
theorem d_Mod_live_35 : decode b_Mod_live 35 = .ok (.iload_n 2, 1) := by decide +kernel
theorem d_Mod_live_36 : decode b_Mod_live 36 = .ok (.iadd, 1) := by decide +kernel
theorem d_Mod_live_37 : decode b_Mod_live 37 = .ok (.iaload, 1) := by decide +kernel
theorem d_Mod_live_38 : decode b_Mod_live 38 = .ok (.ireturn, 1) := by decide +kernel
theorem d_Mod_on_0 : decode b_Mod_on 0 = .ok (.aload_n 0, 1) := by decide +kernel
theorem d_Mod_on_1 : decode b_Mod_on 1 = .ok (.iconst 0, 1) := by decide +kernel
theorem d_Mod_on_2 : decode b_Mod_on 2 = .ok (.putfield 102, 3) := by decide +kernel
theorem d_Mod_on_5 : decode b_Mod_on 5 = .ok (.iload_n 1, 1) := by decide +kernel
theorem d_Mod_on_6 : decode b_Mod_on 6 = .ok (.ifCond .lt 18, 3) := by decide +kernel
theorem d_Mod_on_9 : decode b_Mod_on 9 = .ok (.iload_n 1, 1) := by decide +kernel
theorem d_Mod_on_10 : decode b_Mod_on 10 = .ok (.aload_n 0, 1) := by decide +kernel
theorem d_Mod_on_11 : decode b_Mod_on 11 = .ok (.getfield 193, 3) := by decide +kernel
theorem d_Mod_on_14 : decode b_Mod_on 14 = .ok (.if_icmp .ge 10, 3) := by decide +kernel
theorem d_Mod_on_17 : decode b_Mod_on 17 = .ok (.iload_n 2, 1) := by decide +kernel
theorem d_Mod_on_18 : decode b_Mod_on 18 = .ok (.invokestatic 206, 3) := by decide +kernel
theorem d_Mod_on_21 : decode b_Mod_on 21 = .ok (.ifCond .ne 7, 3) := by decide +kernel
theorem d_Mod_on_24 : decode b_Mod_on 24 = .ok (.iconst 0, 1) := by decide +kernel
theorem d_Mod_on_25 : decode b_Mod_on 25 = .ok (.goto 13, 3) := by decide +kernel
theorem d_Mod_on_28 : decode b_Mod_on 28 = .ok (.aload_n 0, 1) := by decide +kernel
theorem d_Mod_on_29 : decode b_Mod_on 29 = .ok (.getfield 86, 3) := by decide +kernel
theorem d_Mod_on_32 : decode b_Mod_on 32 = .ok (.iconst 2, 1) := by decide +kernel
theorem d_Mod_on_33 : decode b_Mod_on 33 = .ok (.iload_n 1, 1) := by decide +kernel
theorem d_Mod_on_34 : decode b_Mod_on 34 = .ok (.imul, 1) := by decide +kernel
theorem d_Mod_on_35 : decode b_Mod_on 35 = .ok (.iload_n 2, 1) := by decide +kernel
theorem d_Mod_on_36 : decode b_Mod_on 36 = .ok (.iadd, 1) := by decide +kernel
theorem d_Mod_on_37 : decode b_Mod_on 37 = .ok (.iaload, 1) := by decide +kernel
theorem d_Mod_on_38 : decode b_Mod_on 38 = .ok (.ireturn, 1) := by decide +kernel
end
section
theorem d_Mod_reasoned_0 : decode b_Mod_reasoned 0 = .ok (.iload_n 1, 1) := by decide +kernel
theorem d_Mod_reasoned_1 : decode b_Mod_reasoned 1 = .ok (.ifCond .lt 18, 3) := by decide +kernel
theorem d_Mod_reasoned_4 : decode b_Mod_reasoned 4 = .ok (.iload_n 1, 1) := by decide +kernel
theorem d_Mod_reasoned_5 : decode b_Mod_reasoned 5 = .ok (.aload_n 0, 1) := by decide +kernel
theorem d_Mod_reasoned_6 : decode b_Mod_reasoned 6 = .ok (.getfield 193, 3) := by decide +kernel
theorem d_Mod_reasoned_9 : decode b_Mod_reasoned 9 = .ok (.if_icmp .ge 10, 3) := by decide +kernel
theorem d_Mod_reasoned_12 : decode b_Mod_reasoned 12 = .ok (.iload_n 2, 1) := by decide +kernel
theorem d_Mod_reasoned_13 : decode b_Mod_reasoned 13 = .ok (.invokestatic 206, 3) := by decide +kernel
theorem d_Mod_reasoned_16 : decode b_Mod_reasoned 16 = .ok (.ifCond .ne 5, 3) := by decide +kernel
theorem d_Mod_reasoned_19 : decode b_Mod_reasoned 19 = .ok (.iconst 0, 1) := by decide +kernel
theorem d_Mod_reasoned_20 : decode b_Mod_reasoned 20 = .ok (.ireturn, 1) := by decide +kernel
theorem d_Mod_reasoned_21 : decode b_Mod_reasoned 21 = .ok (.iconst 0, 1) := by decide +kernel
theorem d_Mod_reasoned_22 : decode b_Mod_reasoned 22 = .ok (.istore_n 3, 1) := by decide +kernel
theorem d_Mod_reasoned_23 : decode b_Mod_reasoned 23 = .ok (.iload_n 3, 1) := by decide +kernel
theorem d_Mod_reasoned_24 : decode b_Mod_reasoned 24 = .ok (.bipush 20, 2) := by decide +kernel
theorem d_Mod_reasoned_26 : decode b_Mod_reasoned 26 = .ok (.if_icmp .ge 21, 3) := by decide +kernel
theorem d_Mod_reasoned_29 : decode b_Mod_reasoned 29 = .ok (.aload_n 0, 1) := by decide +kernel
theorem d_Mod_reasoned_30 : decode b_Mod_reasoned 30 = .ok (.getfield 71, 3) := by decide +kernel
theorem d_Mod_reasoned_33 : decode b_Mod_reasoned 33 = .ok (.iload_n 3, 1) := by decide +kernel
theorem d_Mod_reasoned_34 : decode b_Mod_reasoned 34 = .ok (.aload_n 0, 1) := by decide +kernel
theorem d_Mod_reasoned_35 : decode b_Mod_reasoned 35 = .ok (.getfield 80, 3) := by decide +kernel
theorem d_Mod_reasoned_38 : decode b_Mod_reasoned 38 = .ok (.iload_n 3, 1) := by decide +kernel
theorem d_Mod_reasoned_39 : decode b_Mod_reasoned 39 = .ok (.iaload, 1) := by decide +kernel
theorem d_Mod_reasoned_40 : decode b_Mod_reasoned 40 = .ok (.iastore, 1) := by decide +kernel
theorem d_Mod_reasoned_41 : decode b_Mod_reasoned 41 = .ok (.iinc 3 1, 3) := by decide +kernel
theorem d_Mod_reasoned_44 : decode b_Mod_reasoned 44 = .ok (.goto (-21), 3) := by decide +kernel
theorem d_Mod_reasoned_47 : decode b_Mod_reasoned 47 = .ok (.iconst 0, 1) := by decide +kernel
theorem d_Mod_reasoned_48 : decode b_Mod_reasoned 48 = .ok (.istore_n 3, 1) := by decide +kernel
theorem d_Mod_reasoned_49 : decode b_Mod_reasoned 49 = .ok (.iload_n 3, 1) := by decide +kernel
theorem d_Mod_reasoned_50 : decode b_Mod_reasoned 50 = .ok (.bipush 80, 2) := by decide +kernel
theorem d_Mod_reasoned_52 : decode b_Mod_reasoned 52 = .ok (.if_icmp .ge 21, 3) := by decide +kernel
theorem d_Mod_reasoned_55 : decode b_Mod_reasoned 55 = .ok (.aload_n 0, 1) := by decide +kernel
theorem d_Mod_reasoned_56 : decode b_Mod_reasoned 56 = .ok (.getfield 74, 3) := by decide +kernel
theorem d_Mod_reasoned_59 : decode b_Mod_reasoned 59 = .ok (.iload_n 3, 1) := by decide +kernel
theorem d_Mod_reasoned_60 : decode b_Mod_reasoned 60 = .ok (.aload_n 0, 1) := by decide +kernel
theorem d_Mod_reasoned_61 : decode b_Mod_reasoned 61 = .ok (.getfield 83, 3) := by decide +kernel
theorem d_Mod_reasoned_64 : decode b_Mod_reasoned 64 = .ok (.iload_n 3, 1) := by decide +kernel
theorem d_Mod_reasoned_65 : decode b_Mod_reasoned 65 = .ok (.iaload, 1) := by decide +kernel
theorem d_Mod_reasoned_66 : decode b_Mod_reasoned 66 = .ok (.iastore, 1) := by decide +kernel
theorem d_Mod_reasoned_67 : decode b_Mod_reasoned 67 = .ok (.iinc 3 1, 3) := by decide +kernel
theorem d_Mod_reasoned_70 : decode b_Mod_reasoned 70 = .ok (.goto (-21), 3) := by decide +kernel
theorem d_Mod_reasoned_73 : decode b_Mod_reasoned 73 = .ok (.iconst 0, 1) := by decide +kernel
theorem d_Mod_reasoned_74 : decode b_Mod_reasoned 74 = .ok (.istore_n 3, 1) := by decide +kernel
theorem d_Mod_reasoned_75 : decode b_Mod_reasoned 75 = .ok (.iload_n 3, 1) := by decide +kernel
theorem d_Mod_reasoned_76 : decode b_Mod_reasoned 76 = .ok (.bipush 120, 2) := by decide +kernel
theorem d_Mod_reasoned_78 : decode b_Mod_reasoned 78 = .ok (.if_icmp .ge 21, 3) := by decide +kernel
theorem d_Mod_reasoned_81 : decode b_Mod_reasoned 81 = .ok (.aload_n 0, 1) := by decide +kernel
theorem d_Mod_reasoned_82 : decode b_Mod_reasoned 82 = .ok (.getfield 77, 3) := by decide +kernel
theorem d_Mod_reasoned_85 : decode b_Mod_reasoned 85 = .ok (.iload_n 3, 1) := by decide +kernel
theorem d_Mod_reasoned_86 : decode b_Mod_reasoned 86 = .ok (.aload_n 0, 1) := by decide +kernel
theorem d_Mod_reasoned_87 : decode b_Mod_reasoned 87 = .ok (.getfield 86, 3) := by decide +kernel
theorem d_Mod_reasoned_90 : decode b_Mod_reasoned 90 = .ok (.iload_n 3, 1) := by decide +kernel
theorem d_Mod_reasoned_91 : decode b_Mod_reasoned 91 = .ok (.iaload, 1) := by decide +kernel
theorem d_Mod_reasoned_92 : decode b_Mod_reasoned 92 = .ok (.iastore, 1) := by decide +kernel
theorem d_Mod_reasoned_93 : decode b_Mod_reasoned 93 = .ok (.iinc 3 1, 3) := by decide +kernel
theorem d_Mod_reasoned_96 : decode b_Mod_reasoned 96 = .ok (.goto (-21), 3) := by decide +kernel
theorem d_Mod_reasoned_99 : decode b_Mod_reasoned 99 = .ok (.aload_n 0, 1) := by decide +kernel
theorem d_Mod_reasoned_100 : decode b_Mod_reasoned 100 = .ok (.iload_n 1, 1) := by decide +kernel
theorem d_Mod_reasoned_101 : decode b_Mod_reasoned 101 = .ok (.iload_n 2, 1) := by decide +kernel
theorem d_Mod_reasoned_102 : decode b_Mod_reasoned 102 = .ok (.sipush 1000, 3) := by decide +kernel
theorem d_Mod_reasoned_105 : decode b_Mod_reasoned 105 = .ok (.invokevirtual 179, 3) := by decide +kernel
theorem d_Mod_reasoned_108 : decode b_Mod_reasoned 108 = .ok (.iconst 1, 1) := by decide +kernel
theorem d_Mod_reasoned_109 : decode b_Mod_reasoned 109 = .ok (.ireturn, 1) := by decide +kernel
theorem d_Mod_reasons_0 : decode b_Mod_reasons 0 = .ok (.aload_n 0, 1) := by decide +kernel
theorem d_Mod_reasons_1 : decode b_Mod_reasons 1 = .ok (.iconst 0, 1) := by decide +kernel
theorem d_Mod_reasons_2 : decode b_Mod_reasons 2 = .ok (.putfield 102, 3) := by decide +kernel
theorem d_Mod_reasons_5 : decode b_Mod_reasons 5 = .ok (.aload_n 0, 1) := by decide +kernel
theorem d_Mod_reasons_6 : decode b_Mod_reasons 6 = .ok (.iload_n 1, 1) := by decide +kernel
theorem d_Mod_reasons_7 : decode b_Mod_reasons 7 = .ok (.iload_n 2, 1) := by decide +kernel
theorem d_Mod_reasons_8 : decode b_Mod_reasons 8 = .ok (.invokevirtual 209, 3) := by decide +kernel
theorem d_Mod_reasons_11 : decode b_Mod_reasons 11 = .ok (.ifCond .eq 10, 3) := by decide +kernel
theorem d_Mod_reasons_14 : decode b_Mod_reasons 14 = .ok (.aload_n 0, 1) := by decide +kernel
theorem d_Mod_reasons_15 : decode b_Mod_reasons 15 = .ok (.getfield 165, 3) := by decide +kernel
theorem d_Mod_reasons_18 : decode b_Mod_reasons 18 = .ok (.goto 4, 3) := by decide +kernel
theorem d_Mod_reasons_21 : decode b_Mod_reasons 21 = .ok (.iconst 0, 1) := by decide +kernel
theorem d_Mod_reasons_22 : decode b_Mod_reasons 22 = .ok (.ireturn, 1) := by decide +kernel
theorem d_Mod_reason_0 : decode b_Mod_reason 0 = .ok (.aload_n 0, 1) := by decide +kernel
theorem d_Mod_reason_1 : decode b_Mod_reason 1 = .ok (.iconst 0, 1) := by decide +kernel
theorem d_Mod_reason_2 : decode b_Mod_reason 2 = .ok (.putfield 102, 3) := by decide +kernel
theorem d_Mod_reason_5 : decode b_Mod_reason 5 = .ok (.aload_n 0, 1) := by decide +kernel
theorem d_Mod_reason_6 : decode b_Mod_reason 6 = .ok (.iload_n 1, 1) := by decide +kernel
theorem d_Mod_reason_7 : decode b_Mod_reason 7 = .ok (.iload_n 2, 1) := by decide +kernel
theorem d_Mod_reason_8 : decode b_Mod_reason 8 = .ok (.invokevirtual 209, 3) := by decide +kernel
theorem d_Mod_reason_11 : decode b_Mod_reason 11 = .ok (.ifCond .eq 15, 3) := by decide +kernel
theorem d_Mod_reason_14 : decode b_Mod_reason 14 = .ok (.iload_n 3, 1) := by decide +kernel
theorem d_Mod_reason_15 : decode b_Mod_reason 15 = .ok (.ifCond .lt 11, 3) := by decide +kernel
theorem d_Mod_reason_18 : decode b_Mod_reason 18 = .ok (.iload_n 3, 1) := by decide +kernel
theorem d_Mod_reason_19 : decode b_Mod_reason 19 = .ok (.aload_n 0, 1) := by decide +kernel
theorem d_Mod_reason_20 : decode b_Mod_reason 20 = .ok (.getfield 165, 3) := by decide +kernel
theorem d_Mod_reason_23 : decode b_Mod_reason 23 = .ok (.if_icmp .lt 5, 3) := by decide +kernel
theorem d_Mod_reason_26 : decode b_Mod_reason 26 = .ok (.iconst (-1), 1) := by decide +kernel
theorem d_Mod_reason_27 : decode b_Mod_reason 27 = .ok (.ireturn, 1) := by decide +kernel
theorem d_Mod_reason_28 : decode b_Mod_reason 28 = .ok (.iload 4, 2) := by decide +kernel
theorem d_Mod_reason_30 : decode b_Mod_reason 30 = .ok (.ifCond .ne 12, 3) := by decide +kernel
theorem d_Mod_reason_33 : decode b_Mod_reason 33 = .ok (.aload_n 0, 1) := by decide +kernel
theorem d_Mod_reason_34 : decode b_Mod_reason 34 = .ok (.getfield 96, 3) := by decide +kernel
theorem d_Mod_reason_37 : decode b_Mod_reason 37 = .ok (.iload_n 3, 1) := by decide +kernel
theorem d_Mod_reason_38 : decode b_Mod_reason 38 = .ok (.iaload, 1) := by decide +kernel
theorem d_Mod_reason_39 : decode b_Mod_reason 39 = .ok (.goto 19, 3) := by decide +kernel
theorem d_Mod_reason_42 : decode b_Mod_reason 42 = .ok (.iload 4, 2) := by decide +kernel
theorem d_Mod_reason_44 : decode b_Mod_reason 44 = .ok (.iconst 1, 1) := by decide +kernel
theorem d_Mod_reason_45 : decode b_Mod_reason 45 = .ok (.if_icmp .ne 12, 3) := by decide +kernel
theorem d_Mod_reason_48 : decode b_Mod_reason 48 = .ok (.aload_n 0, 1) := by decide +kernel
theorem d_Mod_reason_49 : decode b_Mod_reason 49 = .ok (.getfield 99, 3) := by decide +kernel
theorem d_Mod_reason_52 : decode b_Mod_reason 52 = .ok (.iload_n 3, 1) := by decide +kernel
theorem d_Mod_reason_53 : decode b_Mod_reason 53 = .ok (.iaload, 1) := by decide +kernel
theorem d_Mod_reason_54 : decode b_Mod_reason 54 = .ok (.goto 4, 3) := by decide +kernel
theorem d_Mod_reason_57 : decode b_Mod_reason 57 = .ok (.iconst (-1), 1) := by decide +kernel
theorem d_Mod_reason_58 : decode b_Mod_reason 58 = .ok (.ireturn, 1) := by decide +kernel
theorem d_Mod_clash_0 : decode b_Mod_clash 0 = .ok (.aload_n 0, 1) := by decide +kernel
theorem d_Mod_clash_1 : decode b_Mod_clash 1 = .ok (.iconst 0, 1) := by decide +kernel
theorem d_Mod_clash_2 : decode b_Mod_clash 2 = .ok (.putfield 102, 3) := by decide +kernel
theorem d_Mod_clash_5 : decode b_Mod_clash 5 = .ok (.iconst 0, 1) := by decide +kernel
theorem d_Mod_clash_6 : decode b_Mod_clash 6 = .ok (.istore_n 3, 1) := by decide +kernel
theorem d_Mod_clash_7 : decode b_Mod_clash 7 = .ok (.iconst 0, 1) := by decide +kernel
theorem d_Mod_clash_8 : decode b_Mod_clash 8 = .ok (.istore 4, 2) := by decide +kernel
theorem d_Mod_clash_10 : decode b_Mod_clash 10 = .ok (.iload 4, 2) := by decide +kernel
theorem d_Mod_clash_12 : decode b_Mod_clash 12 = .ok (.aload_n 0, 1) := by decide +kernel
theorem d_Mod_clash_13 : decode b_Mod_clash 13 = .ok (.getfield 193, 3) := by decide +kernel
theorem d_Mod_clash_16 : decode b_Mod_clash 16 = .ok (.if_icmp .ge 164, 3) := by decide +kernel
theorem d_Mod_clash_19 : decode b_Mod_clash 19 = .ok (.iload 4, 2) := by decide +kernel
theorem d_Mod_clash_21 : decode b_Mod_clash 21 = .ok (.iconst 1, 1) := by decide +kernel
theorem d_Mod_clash_22 : decode b_Mod_clash 22 = .ok (.iadd, 1) := by decide +kernel
theorem d_Mod_clash_23 : decode b_Mod_clash 23 = .ok (.istore 5, 2) := by decide +kernel
theorem d_Mod_clash_25 : decode b_Mod_clash 25 = .ok (.iload 5, 2) := by decide +kernel
theorem d_Mod_clash_27 : decode b_Mod_clash 27 = .ok (.aload_n 0, 1) := by decide +kernel
theorem d_Mod_clash_28 : decode b_Mod_clash 28 = .ok (.getfield 193, 3) := by decide +kernel
theorem d_Mod_clash_31 : decode b_Mod_clash 31 = .ok (.if_icmp .ge 143, 3) := by decide +kernel
theorem d_Mod_clash_34 : decode b_Mod_clash 34 = .ok (.aload_n 0, 1) := by decide +kernel
theorem d_Mod_clash_35 : decode b_Mod_clash 35 = .ok (.getfield 19, 3) := by decide +kernel
theorem d_Mod_clash_38 : decode b_Mod_clash 38 = .ok (.iload 4, 2) := by decide +kernel
theorem d_Mod_clash_40 : decode b_Mod_clash 40 = .ok (.iaload, 1) := by decide +kernel
theorem d_Mod_clash_41 : decode b_Mod_clash 41 = .ok (.aload_n 0, 1) := by decide +kernel
theorem d_Mod_clash_42 : decode b_Mod_clash 42 = .ok (.getfield 19, 3) := by decide +kernel
theorem d_Mod_clash_45 : decode b_Mod_clash 45 = .ok (.iload 5, 2) := by decide +kernel
theorem d_Mod_clash_47 : decode b_Mod_clash 47 = .ok (.iaload, 1) := by decide +kernel
theorem d_Mod_clash_48 : decode b_Mod_clash 48 = .ok (.if_icmp .ne 120, 3) := by decide +kernel
theorem d_Mod_clash_51 : decode b_Mod_clash 51 = .ok (.aload_n 0, 1) := by decide +kernel
theorem d_Mod_clash_52 : decode b_Mod_clash 52 = .ok (.getfield 26, 3) := by decide +kernel
theorem d_Mod_clash_55 : decode b_Mod_clash 55 = .ok (.iload 4, 2) := by decide +kernel
theorem d_Mod_clash_57 : decode b_Mod_clash 57 = .ok (.iaload, 1) := by decide +kernel
theorem d_Mod_clash_58 : decode b_Mod_clash 58 = .ok (.ifCond .eq 110, 3) := by decide +kernel
theorem d_Mod_clash_61 : decode b_Mod_clash 61 = .ok (.aload_n 0, 1) := by decide +kernel
theorem d_Mod_clash_62 : decode b_Mod_clash 62 = .ok (.getfield 26, 3) := by decide +kernel
theorem d_Mod_clash_65 : decode b_Mod_clash 65 = .ok (.iload 4, 2) := by decide +kernel
theorem d_Mod_clash_67 : decode b_Mod_clash 67 = .ok (.iaload, 1) := by decide +kernel
theorem d_Mod_clash_68 : decode b_Mod_clash 68 = .ok (.aload_n 0, 1) := by decide +kernel
theorem d_Mod_clash_69 : decode b_Mod_clash 69 = .ok (.getfield 26, 3) := by decide +kernel
theorem d_Mod_clash_72 : decode b_Mod_clash 72 = .ok (.iload 5, 2) := by decide +kernel
theorem d_Mod_clash_74 : decode b_Mod_clash 74 = .ok (.iaload, 1) := by decide +kernel
theorem d_Mod_clash_75 : decode b_Mod_clash 75 = .ok (.if_icmp .eq 6, 3) := by decide +kernel
theorem d_Mod_clash_78 : decode b_Mod_clash 78 = .ok (.goto 90, 3) := by decide +kernel
theorem d_Mod_clash_81 : decode b_Mod_clash 81 = .ok (.iconst 0, 1) := by decide +kernel
theorem d_Mod_clash_82 : decode b_Mod_clash 82 = .ok (.istore 6, 2) := by decide +kernel
theorem d_Mod_clash_84 : decode b_Mod_clash 84 = .ok (.iload 6, 2) := by decide +kernel
theorem d_Mod_clash_86 : decode b_Mod_clash 86 = .ok (.iconst 2, 1) := by decide +kernel
theorem d_Mod_clash_87 : decode b_Mod_clash 87 = .ok (.if_icmp .ge 81, 3) := by decide +kernel
theorem d_Mod_clash_90 : decode b_Mod_clash 90 = .ok (.aload_n 0, 1) := by decide +kernel
theorem d_Mod_clash_91 : decode b_Mod_clash 91 = .ok (.getfield 86, 3) := by decide +kernel
theorem d_Mod_clash_94 : decode b_Mod_clash 94 = .ok (.iconst 2, 1) := by decide +kernel
theorem d_Mod_clash_95 : decode b_Mod_clash 95 = .ok (.iload 4, 2) := by decide +kernel
theorem d_Mod_clash_97 : decode b_Mod_clash 97 = .ok (.imul, 1) := by decide +kernel
theorem d_Mod_clash_98 : decode b_Mod_clash 98 = .ok (.iload 6, 2) := by decide +kernel
theorem d_Mod_clash_100 : decode b_Mod_clash 100 = .ok (.iadd, 1) := by decide +kernel
theorem d_Mod_clash_101 : decode b_Mod_clash 101 = .ok (.iaload, 1) := by decide +kernel
theorem d_Mod_clash_102 : decode b_Mod_clash 102 = .ok (.ifCond .eq 60, 3) := by decide +kernel
theorem d_Mod_clash_105 : decode b_Mod_clash 105 = .ok (.aload_n 0, 1) := by decide +kernel
theorem d_Mod_clash_106 : decode b_Mod_clash 106 = .ok (.getfield 86, 3) := by decide +kernel
theorem d_Mod_clash_109 : decode b_Mod_clash 109 = .ok (.iconst 2, 1) := by decide +kernel
theorem d_Mod_clash_110 : decode b_Mod_clash 110 = .ok (.iload 5, 2) := by decide +kernel
theorem d_Mod_clash_112 : decode b_Mod_clash 112 = .ok (.imul, 1) := by decide +kernel
theorem d_Mod_clash_113 : decode b_Mod_clash 113 = .ok (.iload 6, 2) := by decide +kernel
theorem d_Mod_clash_115 : decode b_Mod_clash 115 = .ok (.iadd, 1) := by decide +kernel
theorem d_Mod_clash_116 : decode b_Mod_clash 116 = .ok (.iaload, 1) := by decide +kernel
theorem d_Mod_clash_117 : decode b_Mod_clash 117 = .ok (.ifCond .ne 6, 3) := by decide +kernel
theorem d_Mod_clash_120 : decode b_Mod_clash 120 = .ok (.goto 42, 3) := by decide +kernel
theorem d_Mod_clash_123 : decode b_Mod_clash 123 = .ok (.iload_n 3, 1) := by decide +kernel
theorem d_Mod_clash_124 : decode b_Mod_clash 124 = .ok (.iload_n 1, 1) := by decide +kernel
theorem d_Mod_clash_125 : decode b_Mod_clash 125 = .ok (.if_icmp .ne 34, 3) := by decide +kernel
theorem d_Mod_clash_128 : decode b_Mod_clash 128 = .ok (.iload_n 2, 1) := by decide +kernel
theorem d_Mod_clash_129 : decode b_Mod_clash 129 = .ok (.ifCond .ne 8, 3) := by decide +kernel
theorem d_Mod_clash_132 : decode b_Mod_clash 132 = .ok (.iload 4, 2) := by decide +kernel
theorem d_Mod_clash_134 : decode b_Mod_clash 134 = .ok (.goto 24, 3) := by decide +kernel
theorem d_Mod_clash_137 : decode b_Mod_clash 137 = .ok (.iload_n 2, 1) := by decide +kernel
theorem d_Mod_clash_138 : decode b_Mod_clash 138 = .ok (.iconst 1, 1) := by decide +kernel
theorem d_Mod_clash_139 : decode b_Mod_clash 139 = .ok (.if_icmp .ne 8, 3) := by decide +kernel
theorem d_Mod_clash_142 : decode b_Mod_clash 142 = .ok (.iload 5, 2) := by decide +kernel
theorem d_Mod_clash_144 : decode b_Mod_clash 144 = .ok (.goto 14, 3) := by decide +kernel
theorem d_Mod_clash_147 : decode b_Mod_clash 147 = .ok (.iload_n 2, 1) := by decide +kernel
theorem d_Mod_clash_148 : decode b_Mod_clash 148 = .ok (.iconst 2, 1) := by decide +kernel
theorem d_Mod_clash_149 : decode b_Mod_clash 149 = .ok (.if_icmp .ne 8, 3) := by decide +kernel
theorem d_Mod_clash_152 : decode b_Mod_clash 152 = .ok (.iload 6, 2) := by decide +kernel
theorem d_Mod_clash_154 : decode b_Mod_clash 154 = .ok (.goto 4, 3) := by decide +kernel
theorem d_Mod_clash_157 : decode b_Mod_clash 157 = .ok (.iconst (-1), 1) := by decide +kernel
theorem d_Mod_clash_158 : decode b_Mod_clash 158 = .ok (.ireturn, 1) := by decide +kernel
theorem d_Mod_clash_159 : decode b_Mod_clash 159 = .ok (.iinc 3 1, 3) := by decide +kernel
theorem d_Mod_clash_162 : decode b_Mod_clash 162 = .ok (.iinc 6 1, 3) := by decide +kernel
theorem d_Mod_clash_165 : decode b_Mod_clash 165 = .ok (.goto (-81), 3) := by decide +kernel
theorem d_Mod_clash_168 : decode b_Mod_clash 168 = .ok (.iinc 5 1, 3) := by decide +kernel
theorem d_Mod_clash_171 : decode b_Mod_clash 171 = .ok (.goto (-146), 3) := by decide +kernel
theorem d_Mod_clash_174 : decode b_Mod_clash 174 = .ok (.iinc 4 1, 3) := by decide +kernel
theorem d_Mod_clash_177 : decode b_Mod_clash 177 = .ok (.goto (-167), 3) := by decide +kernel
theorem d_Mod_clash_180 : decode b_Mod_clash 180 = .ok (.iconst (-1), 1) := by decide +kernel
theorem d_Mod_clash_181 : decode b_Mod_clash 181 = .ok (.ireturn, 1) := by decide +kernel
theorem d_Mod_without_0 : decode b_Mod_without 0 = .ok (.aload_n 0, 1) := by decide +kernel
theorem d_Mod_without_1 : decode b_Mod_without 1 = .ok (.iconst 0, 1) := by decide +kernel
theorem d_Mod_without_2 : decode b_Mod_without 2 = .ok (.putfield 102, 3) := by decide +kernel
theorem d_Mod_without_5 : decode b_Mod_without 5 = .ok (.aload_n 0, 1) := by decide +kernel
theorem d_Mod_without_6 : decode b_Mod_without 6 = .ok (.getfield 199, 3) := by decide +kernel
theorem d_Mod_without_9 : decode b_Mod_without 9 = .ok (.ifCond .eq 18, 3) := by decide +kernel
theorem d_Mod_without_12 : decode b_Mod_without 12 = .ok (.aload_n 0, 1) := by decide +kernel
theorem d_Mod_without_13 : decode b_Mod_without 13 = .ok (.getfield 114, 3) := by decide +kernel
theorem d_Mod_without_16 : decode b_Mod_without 16 = .ok (.ifCond .ne 11, 3) := by decide +kernel
theorem d_Mod_without_19 : decode b_Mod_without 19 = .ok (.aload_n 0, 1) := by decide +kernel
theorem d_Mod_without_20 : decode b_Mod_without 20 = .ok (.iload_n 1, 1) := by decide +kernel
theorem d_Mod_without_21 : decode b_Mod_without 21 = .ok (.invokevirtual 130, 3) := by decide +kernel
theorem d_Mod_without_24 : decode b_Mod_without 24 = .ok (.ifCond .ne 5, 3) := by decide +kernel
theorem d_Mod_without_27 : decode b_Mod_without 27 = .ok (.iconst (-1), 1) := by decide +kernel
theorem d_Mod_without_28 : decode b_Mod_without 28 = .ok (.ireturn, 1) := by decide +kernel
theorem d_Mod_without_29 : decode b_Mod_without 29 = .ok (.aload_n 0, 1) := by decide +kernel
theorem d_Mod_without_30 : decode b_Mod_without 30 = .ok (.aload_n 0, 1) := by decide +kernel
theorem d_Mod_without_31 : decode b_Mod_without 31 = .ok (.getfield 35, 3) := by decide +kernel
theorem d_Mod_without_34 : decode b_Mod_without 34 = .ok (.iload_n 1, 1) := by decide +kernel
theorem d_Mod_without_35 : decode b_Mod_without 35 = .ok (.iaload, 1) := by decide +kernel
theorem d_Mod_without_36 : decode b_Mod_without 36 = .ok (.iload_n 2, 1) := by decide +kernel
theorem d_Mod_without_37 : decode b_Mod_without 37 = .ok (.invokevirtual 126, 3) := by decide +kernel
theorem d_Mod_without_40 : decode b_Mod_without 40 = .ok (.istore_n 3, 1) := by decide +kernel
theorem d_Mod_without_41 : decode b_Mod_without 41 = .ok (.iload_n 3, 1) := by decide +kernel
theorem d_Mod_without_42 : decode b_Mod_without 42 = .ok (.iconst (-1), 1) := by decide +kernel
theorem d_Mod_without_43 : decode b_Mod_without 43 = .ok (.if_icmp .ne 7, 3) := by decide +kernel
theorem d_Mod_without_46 : decode b_Mod_without 46 = .ok (.iconst (-1), 1) := by decide +kernel
theorem d_Mod_without_47 : decode b_Mod_without 47 = .ok (.goto 13, 3) := by decide +kernel
theorem d_Mod_without_50 : decode b_Mod_without 50 = .ok (.aload_n 0, 1) := by decide +kernel
theorem d_Mod_without_51 : decode b_Mod_without 51 = .ok (.iload_n 1, 1) := by decide +kernel
theorem d_Mod_without_52 : decode b_Mod_without 52 = .ok (.iload_n 3, 1) := by decide +kernel
theorem d_Mod_without_53 : decode b_Mod_without 53 = .ok (.aload_n 0, 1) := by decide +kernel
theorem d_Mod_without_54 : decode b_Mod_without 54 = .ok (.getfield 133, 3) := by decide +kernel
theorem d_Mod_without_57 : decode b_Mod_without 57 = .ok (.invokevirtual 136, 3) := by decide +kernel
theorem d_Mod_without_60 : decode b_Mod_without 60 = .ok (.istore 4, 2) := by decide +kernel
theorem d_Mod_without_62 : decode b_Mod_without 62 = .ok (.iload 4, 2) := by decide +kernel
theorem d_Mod_without_64 : decode b_Mod_without 64 = .ok (.iconst (-1), 1) := by decide +kernel
theorem d_Mod_without_65 : decode b_Mod_without 65 = .ok (.if_icmp .ne 5, 3) := by decide +kernel
theorem d_Mod_without_68 : decode b_Mod_without 68 = .ok (.iconst (-1), 1) := by decide +kernel
theorem d_Mod_without_69 : decode b_Mod_without 69 = .ok (.ireturn, 1) := by decide +kernel
theorem d_Mod_without_70 : decode b_Mod_without 70 = .ok (.aload_n 0, 1) := by decide +kernel
theorem d_Mod_without_71 : decode b_Mod_without 71 = .ok (.iload 4, 2) := by decide +kernel
theorem d_Mod_without_73 : decode b_Mod_without 73 = .ok (.putfield 89, 3) := by decide +kernel
theorem d_Mod_without_76 : decode b_Mod_without 76 = .ok (.aload_n 0, 1) := by decide +kernel
theorem d_Mod_without_77 : decode b_Mod_without 77 = .ok (.invokevirtual 202, 3) := by decide +kernel
theorem d_Mod_without_80 : decode b_Mod_without 80 = .ok (.pop, 1) := by decide +kernel
theorem d_Mod_without_81 : decode b_Mod_without 81 = .ok (.aload_n 0, 1) := by decide +kernel
theorem d_Mod_without_82 : decode b_Mod_without 82 = .ok (.iconst (-1), 1) := by decide +kernel
theorem d_Mod_without_83 : decode b_Mod_without 83 = .ok (.putfield 89, 3) := by decide +kernel
theorem d_Mod_without_86 : decode b_Mod_without 86 = .ok (.aload_n 0, 1) := by decide +kernel
theorem d_Mod_without_87 : decode b_Mod_without 87 = .ok (.iconst 0, 1) := by decide +kernel
theorem d_Mod_without_88 : decode b_Mod_without 88 = .ok (.putfield 212, 3) := by decide +kernel
theorem d_Mod_without_91 : decode b_Mod_without 91 = .ok (.iconst 0, 1) := by decide +kernel
theorem d_Mod_without_92 : decode b_Mod_without 92 = .ok (.istore 5, 2) := by decide +kernel
theorem d_Mod_without_94 : decode b_Mod_without 94 = .ok (.iload 5, 2) := by decide +kernel
theorem d_Mod_without_96 : decode b_Mod_without 96 = .ok (.iconst 2, 1) := by decide +kernel
theorem d_Mod_without_97 : decode b_Mod_without 97 = .ok (.aload_n 0, 1) := by decide +kernel
theorem d_Mod_without_98 : decode b_Mod_without 98 = .ok (.getfield 193, 3) := by decide +kernel
theorem d_Mod_without_101 : decode b_Mod_without 101 = .ok (.imul, 1) := by decide +kernel
theorem d_Mod_without_102 : decode b_Mod_without 102 = .ok (.if_icmp .ge 53, 3) := by decide +kernel
theorem d_Mod_without_105 : decode b_Mod_without 105 = .ok (.aload_n 0, 1) := by decide +kernel
theorem d_Mod_without_106 : decode b_Mod_without 106 = .ok (.getfield 86, 3) := by decide +kernel
theorem d_Mod_without_109 : decode b_Mod_without 109 = .ok (.iload 5, 2) := by decide +kernel
theorem d_Mod_without_111 : decode b_Mod_without 111 = .ok (.iaload, 1) := by decide +kernel
theorem d_Mod_without_112 : decode b_Mod_without 112 = .ok (.ifCond .eq 37, 3) := by decide +kernel
theorem d_Mod_without_115 : decode b_Mod_without 115 = .ok (.aload_n 0, 1) := by decide +kernel
theorem d_Mod_without_116 : decode b_Mod_without 116 = .ok (.getfield 77, 3) := by decide +kernel
theorem d_Mod_without_119 : decode b_Mod_without 119 = .ok (.iload 5, 2) := by decide +kernel
theorem d_Mod_without_121 : decode b_Mod_without 121 = .ok (.iaload, 1) := by decide +kernel
theorem d_Mod_without_122 : decode b_Mod_without 122 = .ok (.ifCond .le 6, 3) := by decide +kernel
theorem d_Mod_without_125 : decode b_Mod_without 125 = .ok (.goto 24, 3) := by decide +kernel
theorem d_Mod_without_128 : decode b_Mod_without 128 = .ok (.aload_n 0, 1) := by decide +kernel
theorem d_Mod_without_129 : decode b_Mod_without 129 = .ok (.getfield 93, 3) := by decide +kernel
theorem d_Mod_without_132 : decode b_Mod_without 132 = .ok (.aload_n 0, 1) := by decide +kernel
theorem d_Mod_without_133 : decode b_Mod_without 133 = .ok (.getfield 212, 3) := by decide +kernel
theorem d_Mod_without_136 : decode b_Mod_without 136 = .ok (.iload 5, 2) := by decide +kernel
theorem d_Mod_without_138 : decode b_Mod_without 138 = .ok (.iastore, 1) := by decide +kernel
theorem d_Mod_without_139 : decode b_Mod_without 139 = .ok (.aload_n 0, 1) := by decide +kernel
theorem d_Mod_without_140 : decode b_Mod_without 140 = .ok (.dup, 1) := by decide +kernel
theorem d_Mod_without_141 : decode b_Mod_without 141 = .ok (.getfield 212, 3) := by decide +kernel
theorem d_Mod_without_144 : decode b_Mod_without 144 = .ok (.iconst 1, 1) := by decide +kernel
theorem d_Mod_without_145 : decode b_Mod_without 145 = .ok (.iadd, 1) := by decide +kernel
theorem d_Mod_without_146 : decode b_Mod_without 146 = .ok (.putfield 212, 3) := by decide +kernel
theorem d_Mod_without_149 : decode b_Mod_without 149 = .ok (.iinc 5 1, 3) := by decide +kernel
theorem d_Mod_without_152 : decode b_Mod_without 152 = .ok (.goto (-58), 3) := by decide +kernel
theorem d_Mod_without_155 : decode b_Mod_without 155 = .ok (.aload_n 0, 1) := by decide +kernel
theorem d_Mod_without_156 : decode b_Mod_without 156 = .ok (.getfield 212, 3) := by decide +kernel
theorem d_Mod_without_159 : decode b_Mod_without 159 = .ok (.ireturn, 1) := by decide +kernel
theorem d_Mod_left_0 : decode b_Mod_left 0 = .ok (.aload_n 0, 1) := by decide +kernel
theorem d_Mod_left_1 : decode b_Mod_left 1 = .ok (.iconst 0, 1) := by decide +kernel
theorem d_Mod_left_2 : decode b_Mod_left 2 = .ok (.putfield 102, 3) := by decide +kernel
theorem d_Mod_left_5 : decode b_Mod_left 5 = .ok (.iload_n 1, 1) := by decide +kernel
theorem d_Mod_left_6 : decode b_Mod_left 6 = .ok (.ifCond .lt 11, 3) := by decide +kernel
theorem d_Mod_left_9 : decode b_Mod_left 9 = .ok (.iload_n 1, 1) := by decide +kernel
theorem d_Mod_left_10 : decode b_Mod_left 10 = .ok (.aload_n 0, 1) := by decide +kernel
theorem d_Mod_left_11 : decode b_Mod_left 11 = .ok (.getfield 212, 3) := by decide +kernel
theorem d_Mod_left_14 : decode b_Mod_left 14 = .ok (.if_icmp .lt 7, 3) := by decide +kernel
theorem d_Mod_left_17 : decode b_Mod_left 17 = .ok (.iconst (-1), 1) := by decide +kernel
theorem d_Mod_left_18 : decode b_Mod_left 18 = .ok (.goto 9, 3) := by decide +kernel
theorem d_Mod_left_21 : decode b_Mod_left 21 = .ok (.aload_n 0, 1) := by decide +kernel
theorem d_Mod_left_22 : decode b_Mod_left 22 = .ok (.getfield 93, 3) := by decide +kernel
theorem d_Mod_left_25 : decode b_Mod_left 25 = .ok (.iload_n 1, 1) := by decide +kernel
theorem d_Mod_left_26 : decode b_Mod_left 26 = .ok (.iaload, 1) := by decide +kernel
theorem d_Mod_left_27 : decode b_Mod_left 27 = .ok (.ireturn, 1) := by decide +kernel
end
section
theorem d_Law_law_0 : decode b_Law_law 0 = .ok (.new 7, 3) := by decide +kernel
theorem d_Law_law_3 : decode b_Law_law 3 = .ok (.dup, 1) := by decide +kernel
theorem d_Law_law_4 : decode b_Law_law 4 = .ok (.invokespecial 9, 3) := by decide +kernel
theorem d_Law_law_7 : decode b_Law_law 7 = .ok (.astore_n 1, 1) := by decide +kernel
theorem d_Law_law_8 : decode b_Law_law 8 = .ok (.new 10, 3) := by decide +kernel
theorem d_Law_law_11 : decode b_Law_law 11 = .ok (.dup, 1) := by decide +kernel
theorem d_Law_law_12 : decode b_Law_law 12 = .ok (.invokespecial 12, 3) := by decide +kernel
theorem d_Law_law_15 : decode b_Law_law 15 = .ok (.astore_n 2, 1) := by decide +kernel
theorem d_Law_law_16 : decode b_Law_law 16 = .ok (.iconst 0, 1) := by decide +kernel
theorem d_Law_law_17 : decode b_Law_law 17 = .ok (.istore_n 3, 1) := by decide +kernel
theorem d_Law_law_18 : decode b_Law_law 18 = .ok (.iload_n 3, 1) := by decide +kernel
theorem d_Law_law_19 : decode b_Law_law 19 = .ok (.aload_n 0, 1) := by decide +kernel
theorem d_Law_law_20 : decode b_Law_law 20 = .ok (.arraylength, 1) := by decide +kernel
theorem d_Law_law_21 : decode b_Law_law 21 = .ok (.bipush 7, 2) := by decide +kernel
theorem d_Law_law_23 : decode b_Law_law 23 = .ok (.isub, 1) := by decide +kernel
theorem d_Law_law_24 : decode b_Law_law 24 = .ok (.if_icmp .gt 753, 3) := by decide +kernel
theorem d_Law_law_27 : decode b_Law_law 27 = .ok (.aload_n 0, 1) := by decide +kernel
theorem d_Law_law_28 : decode b_Law_law 28 = .ok (.iload_n 3, 1) := by decide +kernel
theorem d_Law_law_29 : decode b_Law_law 29 = .ok (.iaload, 1) := by decide +kernel
theorem d_Law_law_30 : decode b_Law_law 30 = .ok (.bipush 15, 2) := by decide +kernel
theorem d_Law_law_32 : decode b_Law_law 32 = .ok (.iand, 1) := by decide +kernel
theorem d_Law_law_33 : decode b_Law_law 33 = .ok (.tableswitch 738 0 14 #[75, 114, 183, 232, 355, 388, 441, 464, 497, 530, 563, 596, 649, 682, 715], 75) := by decide +kernel
theorem d_Law_law_108 : decode b_Law_law 108 = .ok (.aload_n 1, 1) := by decide +kernel
theorem d_Law_law_109 : decode b_Law_law 109 = .ok (.aload_n 0, 1) := by decide +kernel
theorem d_Law_law_110 : decode b_Law_law 110 = .ok (.iload_n 3, 1) := by decide +kernel
theorem d_Law_law_111 : decode b_Law_law 111 = .ok (.iconst 1, 1) := by decide +kernel
theorem d_Law_law_112 : decode b_Law_law 112 = .ok (.iadd, 1) := by decide +kernel
theorem d_Law_law_113 : decode b_Law_law 113 = .ok (.iaload, 1) := by decide +kernel
theorem d_Law_law_114 : decode b_Law_law 114 = .ok (.ifCond .eq 7, 3) := by decide +kernel
theorem d_Law_law_117 : decode b_Law_law 117 = .ok (.iconst 1, 1) := by decide +kernel
theorem d_Law_law_118 : decode b_Law_law 118 = .ok (.goto 4, 3) := by decide +kernel
theorem d_Law_law_121 : decode b_Law_law 121 = .ok (.iconst 0, 1) := by decide +kernel
theorem d_Law_law_122 : decode b_Law_law 122 = .ok (.invokevirtual 13, 3) := by decide +kernel
theorem d_Law_law_125 : decode b_Law_law 125 = .ok (.aload_n 2, 1) := by decide +kernel
theorem d_Law_law_126 : decode b_Law_law 126 = .ok (.aload_n 0, 1) := by decide +kernel
theorem d_Law_law_127 : decode b_Law_law 127 = .ok (.iload_n 3, 1) := by decide +kernel
theorem d_Law_law_128 : decode b_Law_law 128 = .ok (.iconst 1, 1) := by decide +kernel
theorem d_Law_law_129 : decode b_Law_law 129 = .ok (.iadd, 1) := by decide +kernel
theorem d_Law_law_130 : decode b_Law_law 130 = .ok (.iaload, 1) := by decide +kernel
theorem d_Law_law_131 : decode b_Law_law 131 = .ok (.ifCond .eq 7, 3) := by decide +kernel
theorem d_Law_law_134 : decode b_Law_law 134 = .ok (.iconst 1, 1) := by decide +kernel
theorem d_Law_law_135 : decode b_Law_law 135 = .ok (.goto 4, 3) := by decide +kernel
theorem d_Law_law_138 : decode b_Law_law 138 = .ok (.iconst 0, 1) := by decide +kernel
theorem d_Law_law_139 : decode b_Law_law 139 = .ok (.invokevirtual 17, 3) := by decide +kernel
theorem d_Law_law_142 : decode b_Law_law 142 = .ok (.if_icmp .eq 629, 3) := by decide +kernel
theorem d_Law_law_145 : decode b_Law_law 145 = .ok (.iconst 0, 1) := by decide +kernel
theorem d_Law_law_146 : decode b_Law_law 146 = .ok (.ireturn, 1) := by decide +kernel
theorem d_Law_law_147 : decode b_Law_law 147 = .ok (.aload_n 1, 1) := by decide +kernel
theorem d_Law_law_148 : decode b_Law_law 148 = .ok (.aload_n 0, 1) := by decide +kernel
theorem d_Law_law_149 : decode b_Law_law 149 = .ok (.iload_n 3, 1) := by decide +kernel
theorem d_Law_law_150 : decode b_Law_law 150 = .ok (.iconst 1, 1) := by decide +kernel
theorem d_Law_law_151 : decode b_Law_law 151 = .ok (.iadd, 1) := by decide +kernel
theorem d_Law_law_152 : decode b_Law_law 152 = .ok (.iaload, 1) := by decide +kernel
theorem d_Law_law_153 : decode b_Law_law 153 = .ok (.aload_n 0, 1) := by decide +kernel
theorem d_Law_law_154 : decode b_Law_law 154 = .ok (.iload_n 3, 1) := by decide +kernel
theorem d_Law_law_155 : decode b_Law_law 155 = .ok (.iconst 2, 1) := by decide +kernel
theorem d_Law_law_156 : decode b_Law_law 156 = .ok (.iadd, 1) := by decide +kernel
theorem d_Law_law_157 : decode b_Law_law 157 = .ok (.iaload, 1) := by decide +kernel
theorem d_Law_law_158 : decode b_Law_law 158 = .ok (.aload_n 0, 1) := by decide +kernel
theorem d_Law_law_159 : decode b_Law_law 159 = .ok (.iload_n 3, 1) := by decide +kernel
theorem d_Law_law_160 : decode b_Law_law 160 = .ok (.iconst 3, 1) := by decide +kernel
theorem d_Law_law_161 : decode b_Law_law 161 = .ok (.iadd, 1) := by decide +kernel
theorem d_Law_law_162 : decode b_Law_law 162 = .ok (.iaload, 1) := by decide +kernel
theorem d_Law_law_163 : decode b_Law_law 163 = .ok (.ifCond .eq 7, 3) := by decide +kernel
theorem d_Law_law_166 : decode b_Law_law 166 = .ok (.iconst 1, 1) := by decide +kernel
theorem d_Law_law_167 : decode b_Law_law 167 = .ok (.goto 4, 3) := by decide +kernel
theorem d_Law_law_170 : decode b_Law_law 170 = .ok (.iconst 0, 1) := by decide +kernel
theorem d_Law_law_171 : decode b_Law_law 171 = .ok (.aload_n 0, 1) := by decide +kernel
theorem d_Law_law_172 : decode b_Law_law 172 = .ok (.iload_n 3, 1) := by decide +kernel
theorem d_Law_law_173 : decode b_Law_law 173 = .ok (.iconst 4, 1) := by decide +kernel
theorem d_Law_law_174 : decode b_Law_law 174 = .ok (.iadd, 1) := by decide +kernel
theorem d_Law_law_175 : decode b_Law_law 175 = .ok (.iaload, 1) := by decide +kernel
theorem d_Law_law_176 : decode b_Law_law 176 = .ok (.invokevirtual 18, 3) := by decide +kernel
theorem d_Law_law_179 : decode b_Law_law 179 = .ok (.aload_n 2, 1) := by decide +kernel
theorem d_Law_law_180 : decode b_Law_law 180 = .ok (.aload_n 0, 1) := by decide +kernel
theorem d_Law_law_181 : decode b_Law_law 181 = .ok (.iload_n 3, 1) := by decide +kernel
theorem d_Law_law_182 : decode b_Law_law 182 = .ok (.iconst 1, 1) := by decide +kernel
theorem d_Law_law_183 : decode b_Law_law 183 = .ok (.iadd, 1) := by decide +kernel
theorem d_Law_law_184 : decode b_Law_law 184 = .ok (.iaload, 1) := by decide +kernel
theorem d_Law_law_185 : decode b_Law_law 185 = .ok (.aload_n 0, 1) := by decide +kernel
theorem d_Law_law_186 : decode b_Law_law 186 = .ok (.iload_n 3, 1) := by decide +kernel
theorem d_Law_law_187 : decode b_Law_law 187 = .ok (.iconst 2, 1) := by decide +kernel
theorem d_Law_law_188 : decode b_Law_law 188 = .ok (.iadd, 1) := by decide +kernel
theorem d_Law_law_189 : decode b_Law_law 189 = .ok (.iaload, 1) := by decide +kernel
theorem d_Law_law_190 : decode b_Law_law 190 = .ok (.aload_n 0, 1) := by decide +kernel
theorem d_Law_law_191 : decode b_Law_law 191 = .ok (.iload_n 3, 1) := by decide +kernel
theorem d_Law_law_192 : decode b_Law_law 192 = .ok (.iconst 3, 1) := by decide +kernel
theorem d_Law_law_193 : decode b_Law_law 193 = .ok (.iadd, 1) := by decide +kernel
theorem d_Law_law_194 : decode b_Law_law 194 = .ok (.iaload, 1) := by decide +kernel
theorem d_Law_law_195 : decode b_Law_law 195 = .ok (.ifCond .eq 7, 3) := by decide +kernel
theorem d_Law_law_198 : decode b_Law_law 198 = .ok (.iconst 1, 1) := by decide +kernel
theorem d_Law_law_199 : decode b_Law_law 199 = .ok (.goto 4, 3) := by decide +kernel
theorem d_Law_law_202 : decode b_Law_law 202 = .ok (.iconst 0, 1) := by decide +kernel
theorem d_Law_law_203 : decode b_Law_law 203 = .ok (.aload_n 0, 1) := by decide +kernel
theorem d_Law_law_204 : decode b_Law_law 204 = .ok (.iload_n 3, 1) := by decide +kernel
theorem d_Law_law_205 : decode b_Law_law 205 = .ok (.iconst 4, 1) := by decide +kernel
theorem d_Law_law_206 : decode b_Law_law 206 = .ok (.iadd, 1) := by decide +kernel
theorem d_Law_law_207 : decode b_Law_law 207 = .ok (.iaload, 1) := by decide +kernel
theorem d_Law_law_208 : decode b_Law_law 208 = .ok (.invokevirtual 22, 3) := by decide +kernel
theorem d_Law_law_211 : decode b_Law_law 211 = .ok (.if_icmp .eq 560, 3) := by decide +kernel
theorem d_Law_law_214 : decode b_Law_law 214 = .ok (.iconst 0, 1) := by decide +kernel
theorem d_Law_law_215 : decode b_Law_law 215 = .ok (.ireturn, 1) := by decide +kernel
theorem d_Law_law_216 : decode b_Law_law 216 = .ok (.aload_n 1, 1) := by decide +kernel
theorem d_Law_law_217 : decode b_Law_law 217 = .ok (.aload_n 0, 1) := by decide +kernel
theorem d_Law_law_218 : decode b_Law_law 218 = .ok (.iload_n 3, 1) := by decide +kernel
theorem d_Law_law_219 : decode b_Law_law 219 = .ok (.iconst 1, 1) := by decide +kernel
theorem d_Law_law_220 : decode b_Law_law 220 = .ok (.iadd, 1) := by decide +kernel
theorem d_Law_law_221 : decode b_Law_law 221 = .ok (.iaload, 1) := by decide +kernel
theorem d_Law_law_222 : decode b_Law_law 222 = .ok (.aload_n 0, 1) := by decide +kernel
theorem d_Law_law_223 : decode b_Law_law 223 = .ok (.iload_n 3, 1) := by decide +kernel
theorem d_Law_law_224 : decode b_Law_law 224 = .ok (.iconst 2, 1) := by decide +kernel
theorem d_Law_law_225 : decode b_Law_law 225 = .ok (.iadd, 1) := by decide +kernel
theorem d_Law_law_226 : decode b_Law_law 226 = .ok (.iaload, 1) := by decide +kernel
theorem d_Law_law_227 : decode b_Law_law 227 = .ok (.ifCond .eq 7, 3) := by decide +kernel
theorem d_Law_law_230 : decode b_Law_law 230 = .ok (.iconst 1, 1) := by decide +kernel
theorem d_Law_law_231 : decode b_Law_law 231 = .ok (.goto 4, 3) := by decide +kernel
theorem d_Law_law_234 : decode b_Law_law 234 = .ok (.iconst 0, 1) := by decide +kernel
theorem d_Law_law_235 : decode b_Law_law 235 = .ok (.invokevirtual 23, 3) := by decide +kernel
theorem d_Law_law_238 : decode b_Law_law 238 = .ok (.aload_n 2, 1) := by decide +kernel
theorem d_Law_law_239 : decode b_Law_law 239 = .ok (.aload_n 0, 1) := by decide +kernel
theorem d_Law_law_240 : decode b_Law_law 240 = .ok (.iload_n 3, 1) := by decide +kernel
theorem d_Law_law_241 : decode b_Law_law 241 = .ok (.iconst 1, 1) := by decide +kernel
theorem d_Law_law_242 : decode b_Law_law 242 = .ok (.iadd, 1) := by decide +kernel
theorem d_Law_law_243 : decode b_Law_law 243 = .ok (.iaload, 1) := by decide +kernel
theorem d_Law_law_244 : decode b_Law_law 244 = .ok (.aload_n 0, 1) := by decide +kernel
theorem d_Law_law_245 : decode b_Law_law 245 = .ok (.iload_n 3, 1) := by decide +kernel
theorem d_Law_law_246 : decode b_Law_law 246 = .ok (.iconst 2, 1) := by decide +kernel
theorem d_Law_law_247 : decode b_Law_law 247 = .ok (.iadd, 1) := by decide +kernel
theorem d_Law_law_248 : decode b_Law_law 248 = .ok (.iaload, 1) := by decide +kernel
theorem d_Law_law_249 : decode b_Law_law 249 = .ok (.ifCond .eq 7, 3) := by decide +kernel
theorem d_Law_law_252 : decode b_Law_law 252 = .ok (.iconst 1, 1) := by decide +kernel
theorem d_Law_law_253 : decode b_Law_law 253 = .ok (.goto 4, 3) := by decide +kernel
theorem d_Law_law_256 : decode b_Law_law 256 = .ok (.iconst 0, 1) := by decide +kernel
theorem d_Law_law_257 : decode b_Law_law 257 = .ok (.invokevirtual 27, 3) := by decide +kernel
theorem d_Law_law_260 : decode b_Law_law 260 = .ok (.if_icmp .eq 511, 3) := by decide +kernel
theorem d_Law_law_263 : decode b_Law_law 263 = .ok (.iconst 0, 1) := by decide +kernel
theorem d_Law_law_264 : decode b_Law_law 264 = .ok (.ireturn, 1) := by decide +kernel
theorem d_Law_law_265 : decode b_Law_law 265 = .ok (.aload_n 1, 1) := by decide +kernel
theorem d_Law_law_266 : decode b_Law_law 266 = .ok (.aload_n 0, 1) := by decide +kernel
theorem d_Law_law_267 : decode b_Law_law 267 = .ok (.iload_n 3, 1) := by decide +kernel
theorem d_Law_law_268 : decode b_Law_law 268 = .ok (.iconst 1, 1) := by decide +kernel
theorem d_Law_law_269 : decode b_Law_law 269 = .ok (.iadd, 1) := by decide +kernel
theorem d_Law_law_270 : decode b_Law_law 270 = .ok (.iaload, 1) := by decide +kernel
theorem d_Law_law_271 : decode b_Law_law 271 = .ok (.aload_n 0, 1) := by decide +kernel
theorem d_Law_law_272 : decode b_Law_law 272 = .ok (.iload_n 3, 1) := by decide +kernel
theorem d_Law_law_273 : decode b_Law_law 273 = .ok (.iconst 2, 1) := by decide +kernel
theorem d_Law_law_274 : decode b_Law_law 274 = .ok (.iadd, 1) := by decide +kernel
theorem d_Law_law_275 : decode b_Law_law 275 = .ok (.iaload, 1) := by decide +kernel
theorem d_Law_law_276 : decode b_Law_law 276 = .ok (.aload_n 0, 1) := by decide +kernel
theorem d_Law_law_277 : decode b_Law_law 277 = .ok (.iload_n 3, 1) := by decide +kernel
theorem d_Law_law_278 : decode b_Law_law 278 = .ok (.iconst 3, 1) := by decide +kernel
theorem d_Law_law_279 : decode b_Law_law 279 = .ok (.iadd, 1) := by decide +kernel
theorem d_Law_law_280 : decode b_Law_law 280 = .ok (.iaload, 1) := by decide +kernel
theorem d_Law_law_281 : decode b_Law_law 281 = .ok (.ifCond .eq 7, 3) := by decide +kernel
theorem d_Law_law_284 : decode b_Law_law 284 = .ok (.iconst 1, 1) := by decide +kernel
theorem d_Law_law_285 : decode b_Law_law 285 = .ok (.goto 4, 3) := by decide +kernel
theorem d_Law_law_288 : decode b_Law_law 288 = .ok (.iconst 0, 1) := by decide +kernel
theorem d_Law_law_289 : decode b_Law_law 289 = .ok (.aload_n 0, 1) := by decide +kernel
theorem d_Law_law_290 : decode b_Law_law 290 = .ok (.iload_n 3, 1) := by decide +kernel
theorem d_Law_law_291 : decode b_Law_law 291 = .ok (.iconst 4, 1) := by decide +kernel
theorem d_Law_law_292 : decode b_Law_law 292 = .ok (.iadd, 1) := by decide +kernel
theorem d_Law_law_293 : decode b_Law_law 293 = .ok (.iaload, 1) := by decide +kernel
theorem d_Law_law_294 : decode b_Law_law 294 = .ok (.ifCond .eq 7, 3) := by decide +kernel
theorem d_Law_law_297 : decode b_Law_law 297 = .ok (.iconst 1, 1) := by decide +kernel
theorem d_Law_law_298 : decode b_Law_law 298 = .ok (.goto 4, 3) := by decide +kernel
theorem d_Law_law_301 : decode b_Law_law 301 = .ok (.iconst 0, 1) := by decide +kernel
theorem d_Law_law_302 : decode b_Law_law 302 = .ok (.aload_n 0, 1) := by decide +kernel
theorem d_Law_law_303 : decode b_Law_law 303 = .ok (.iload_n 3, 1) := by decide +kernel
theorem d_Law_law_304 : decode b_Law_law 304 = .ok (.iconst 5, 1) := by decide +kernel
theorem d_Law_law_305 : decode b_Law_law 305 = .ok (.iadd, 1) := by decide +kernel
theorem d_Law_law_306 : decode b_Law_law 306 = .ok (.iaload, 1) := by decide +kernel
theorem d_Law_law_307 : decode b_Law_law 307 = .ok (.ifCond .eq 7, 3) := by decide +kernel
theorem d_Law_law_310 : decode b_Law_law 310 = .ok (.iconst 1, 1) := by decide +kernel
theorem d_Law_law_311 : decode b_Law_law 311 = .ok (.goto 4, 3) := by decide +kernel
theorem d_Law_law_314 : decode b_Law_law 314 = .ok (.iconst 0, 1) := by decide +kernel
theorem d_Law_law_315 : decode b_Law_law 315 = .ok (.aload_n 0, 1) := by decide +kernel
theorem d_Law_law_316 : decode b_Law_law 316 = .ok (.iload_n 3, 1) := by decide +kernel
theorem d_Law_law_317 : decode b_Law_law 317 = .ok (.bipush 6, 2) := by decide +kernel
theorem d_Law_law_319 : decode b_Law_law 319 = .ok (.iadd, 1) := by decide +kernel
theorem d_Law_law_320 : decode b_Law_law 320 = .ok (.iaload, 1) := by decide +kernel
theorem d_Law_law_321 : decode b_Law_law 321 = .ok (.invokevirtual 28, 3) := by decide +kernel
theorem d_Law_law_324 : decode b_Law_law 324 = .ok (.aload_n 2, 1) := by decide +kernel
theorem d_Law_law_325 : decode b_Law_law 325 = .ok (.aload_n 0, 1) := by decide +kernel
theorem d_Law_law_326 : decode b_Law_law 326 = .ok (.iload_n 3, 1) := by decide +kernel
theorem d_Law_law_327 : decode b_Law_law 327 = .ok (.iconst 1, 1) := by decide +kernel
theorem d_Law_law_328 : decode b_Law_law 328 = .ok (.iadd, 1) := by decide +kernel
theorem d_Law_law_329 : decode b_Law_law 329 = .ok (.iaload, 1) := by decide +kernel
theorem d_Law_law_330 : decode b_Law_law 330 = .ok (.aload_n 0, 1) := by decide +kernel
theorem d_Law_law_331 : decode b_Law_law 331 = .ok (.iload_n 3, 1) := by decide +kernel
theorem d_Law_law_332 : decode b_Law_law 332 = .ok (.iconst 2, 1) := by decide +kernel
theorem d_Law_law_333 : decode b_Law_law 333 = .ok (.iadd, 1) := by decide +kernel
theorem d_Law_law_334 : decode b_Law_law 334 = .ok (.iaload, 1) := by decide +kernel
theorem d_Law_law_335 : decode b_Law_law 335 = .ok (.aload_n 0, 1) := by decide +kernel
theorem d_Law_law_336 : decode b_Law_law 336 = .ok (.iload_n 3, 1) := by decide +kernel
theorem d_Law_law_337 : decode b_Law_law 337 = .ok (.iconst 3, 1) := by decide +kernel
theorem d_Law_law_338 : decode b_Law_law 338 = .ok (.iadd, 1) := by decide +kernel
theorem d_Law_law_339 : decode b_Law_law 339 = .ok (.iaload, 1) := by decide +kernel
theorem d_Law_law_340 : decode b_Law_law 340 = .ok (.ifCond .eq 7, 3) := by decide +kernel
theorem d_Law_law_343 : decode b_Law_law 343 = .ok (.iconst 1, 1) := by decide +kernel
theorem d_Law_law_344 : decode b_Law_law 344 = .ok (.goto 4, 3) := by decide +kernel
theorem d_Law_law_347 : decode b_Law_law 347 = .ok (.iconst 0, 1) := by decide +kernel
theorem d_Law_law_348 : decode b_Law_law 348 = .ok (.aload_n 0, 1) := by decide +kernel
theorem d_Law_law_349 : decode b_Law_law 349 = .ok (.iload_n 3, 1) := by decide +kernel
theorem d_Law_law_350 : decode b_Law_law 350 = .ok (.iconst 4, 1) := by decide +kernel
theorem d_Law_law_351 : decode b_Law_law 351 = .ok (.iadd, 1) := by decide +kernel
theorem d_Law_law_352 : decode b_Law_law 352 = .ok (.iaload, 1) := by decide +kernel
theorem d_Law_law_353 : decode b_Law_law 353 = .ok (.ifCond .eq 7, 3) := by decide +kernel
theorem d_Law_law_356 : decode b_Law_law 356 = .ok (.iconst 1, 1) := by decide +kernel
theorem d_Law_law_357 : decode b_Law_law 357 = .ok (.goto 4, 3) := by decide +kernel
theorem d_Law_law_360 : decode b_Law_law 360 = .ok (.iconst 0, 1) := by decide +kernel
theorem d_Law_law_361 : decode b_Law_law 361 = .ok (.aload_n 0, 1) := by decide +kernel
theorem d_Law_law_362 : decode b_Law_law 362 = .ok (.iload_n 3, 1) := by decide +kernel
theorem d_Law_law_363 : decode b_Law_law 363 = .ok (.iconst 5, 1) := by decide +kernel
theorem d_Law_law_364 : decode b_Law_law 364 = .ok (.iadd, 1) := by decide +kernel
theorem d_Law_law_365 : decode b_Law_law 365 = .ok (.iaload, 1) := by decide +kernel
theorem d_Law_law_366 : decode b_Law_law 366 = .ok (.ifCond .eq 7, 3) := by decide +kernel
theorem d_Law_law_369 : decode b_Law_law 369 = .ok (.iconst 1, 1) := by decide +kernel
theorem d_Law_law_370 : decode b_Law_law 370 = .ok (.goto 4, 3) := by decide +kernel
theorem d_Law_law_373 : decode b_Law_law 373 = .ok (.iconst 0, 1) := by decide +kernel
theorem d_Law_law_374 : decode b_Law_law 374 = .ok (.aload_n 0, 1) := by decide +kernel
theorem d_Law_law_375 : decode b_Law_law 375 = .ok (.iload_n 3, 1) := by decide +kernel
theorem d_Law_law_376 : decode b_Law_law 376 = .ok (.bipush 6, 2) := by decide +kernel
theorem d_Law_law_378 : decode b_Law_law 378 = .ok (.iadd, 1) := by decide +kernel
theorem d_Law_law_379 : decode b_Law_law 379 = .ok (.iaload, 1) := by decide +kernel
theorem d_Law_law_380 : decode b_Law_law 380 = .ok (.invokevirtual 32, 3) := by decide +kernel
theorem d_Law_law_383 : decode b_Law_law 383 = .ok (.if_icmp .eq 388, 3) := by decide +kernel
theorem d_Law_law_386 : decode b_Law_law 386 = .ok (.iconst 0, 1) := by decide +kernel
theorem d_Law_law_387 : decode b_Law_law 387 = .ok (.ireturn, 1) := by decide +kernel
theorem d_Law_law_388 : decode b_Law_law 388 = .ok (.aload_n 1, 1) := by decide +kernel
theorem d_Law_law_389 : decode b_Law_law 389 = .ok (.aload_n 0, 1) := by decide +kernel
theorem d_Law_law_390 : decode b_Law_law 390 = .ok (.iload_n 3, 1) := by decide +kernel
theorem d_Law_law_391 : decode b_Law_law 391 = .ok (.iconst 1, 1) := by decide +kernel
theorem d_Law_law_392 : decode b_Law_law 392 = .ok (.iadd, 1) := by decide +kernel
theorem d_Law_law_393 : decode b_Law_law 393 = .ok (.iaload, 1) := by decide +kernel
theorem d_Law_law_394 : decode b_Law_law 394 = .ok (.aload_n 0, 1) := by decide +kernel
theorem d_Law_law_395 : decode b_Law_law 395 = .ok (.iload_n 3, 1) := by decide +kernel
theorem d_Law_law_396 : decode b_Law_law 396 = .ok (.iconst 2, 1) := by decide +kernel
theorem d_Law_law_397 : decode b_Law_law 397 = .ok (.iadd, 1) := by decide +kernel
theorem d_Law_law_398 : decode b_Law_law 398 = .ok (.iaload, 1) := by decide +kernel
theorem d_Law_law_399 : decode b_Law_law 399 = .ok (.invokevirtual 33, 3) := by decide +kernel
theorem d_Law_law_402 : decode b_Law_law 402 = .ok (.aload_n 2, 1) := by decide +kernel
theorem d_Law_law_403 : decode b_Law_law 403 = .ok (.aload_n 0, 1) := by decide +kernel
theorem d_Law_law_404 : decode b_Law_law 404 = .ok (.iload_n 3, 1) := by decide +kernel
theorem d_Law_law_405 : decode b_Law_law 405 = .ok (.iconst 1, 1) := by decide +kernel
theorem d_Law_law_406 : decode b_Law_law 406 = .ok (.iadd, 1) := by decide +kernel
theorem d_Law_law_407 : decode b_Law_law 407 = .ok (.iaload, 1) := by decide +kernel
theorem d_Law_law_408 : decode b_Law_law 408 = .ok (.aload_n 0, 1) := by decide +kernel
theorem d_Law_law_409 : decode b_Law_law 409 = .ok (.iload_n 3, 1) := by decide +kernel
theorem d_Law_law_410 : decode b_Law_law 410 = .ok (.iconst 2, 1) := by decide +kernel
theorem d_Law_law_411 : decode b_Law_law 411 = .ok (.iadd, 1) := by decide +kernel
theorem d_Law_law_412 : decode b_Law_law 412 = .ok (.iaload, 1) := by decide +kernel
theorem d_Law_law_413 : decode b_Law_law 413 = .ok (.invokevirtual 37, 3) := by decide +kernel
theorem d_Law_law_416 : decode b_Law_law 416 = .ok (.if_icmp .eq 355, 3) := by decide +kernel
theorem d_Law_law_419 : decode b_Law_law 419 = .ok (.iconst 0, 1) := by decide +kernel
theorem d_Law_law_420 : decode b_Law_law 420 = .ok (.ireturn, 1) := by decide +kernel
theorem d_Law_law_421 : decode b_Law_law 421 = .ok (.aload_n 1, 1) := by decide +kernel
theorem d_Law_law_422 : decode b_Law_law 422 = .ok (.aload_n 0, 1) := by decide +kernel
theorem d_Law_law_423 : decode b_Law_law 423 = .ok (.iload_n 3, 1) := by decide +kernel
theorem d_Law_law_424 : decode b_Law_law 424 = .ok (.iconst 1, 1) := by decide +kernel
theorem d_Law_law_425 : decode b_Law_law 425 = .ok (.iadd, 1) := by decide +kernel
theorem d_Law_law_426 : decode b_Law_law 426 = .ok (.iaload, 1) := by decide +kernel
theorem d_Law_law_427 : decode b_Law_law 427 = .ok (.aload_n 0, 1) := by decide +kernel
theorem d_Law_law_428 : decode b_Law_law 428 = .ok (.iload_n 3, 1) := by decide +kernel
theorem d_Law_law_429 : decode b_Law_law 429 = .ok (.iconst 2, 1) := by decide +kernel
theorem d_Law_law_430 : decode b_Law_law 430 = .ok (.iadd, 1) := by decide +kernel
theorem d_Law_law_431 : decode b_Law_law 431 = .ok (.iaload, 1) := by decide +kernel
theorem d_Law_law_432 : decode b_Law_law 432 = .ok (.aload_n 0, 1) := by decide +kernel
theorem d_Law_law_433 : decode b_Law_law 433 = .ok (.iload_n 3, 1) := by decide +kernel
theorem d_Law_law_434 : decode b_Law_law 434 = .ok (.iconst 3, 1) := by decide +kernel
theorem d_Law_law_435 : decode b_Law_law 435 = .ok (.iadd, 1) := by decide +kernel
theorem d_Law_law_436 : decode b_Law_law 436 = .ok (.iaload, 1) := by decide +kernel
theorem d_Law_law_437 : decode b_Law_law 437 = .ok (.aload_n 0, 1) := by decide +kernel
theorem d_Law_law_438 : decode b_Law_law 438 = .ok (.iload_n 3, 1) := by decide +kernel
theorem d_Law_law_439 : decode b_Law_law 439 = .ok (.iconst 4, 1) := by decide +kernel
theorem d_Law_law_440 : decode b_Law_law 440 = .ok (.iadd, 1) := by decide +kernel
theorem d_Law_law_441 : decode b_Law_law 441 = .ok (.iaload, 1) := by decide +kernel
theorem d_Law_law_442 : decode b_Law_law 442 = .ok (.invokevirtual 38, 3) := by decide +kernel
theorem d_Law_law_445 : decode b_Law_law 445 = .ok (.aload_n 2, 1) := by decide +kernel
theorem d_Law_law_446 : decode b_Law_law 446 = .ok (.aload_n 0, 1) := by decide +kernel
theorem d_Law_law_447 : decode b_Law_law 447 = .ok (.iload_n 3, 1) := by decide +kernel
theorem d_Law_law_448 : decode b_Law_law 448 = .ok (.iconst 1, 1) := by decide +kernel
theorem d_Law_law_449 : decode b_Law_law 449 = .ok (.iadd, 1) := by decide +kernel
theorem d_Law_law_450 : decode b_Law_law 450 = .ok (.iaload, 1) := by decide +kernel
theorem d_Law_law_451 : decode b_Law_law 451 = .ok (.aload_n 0, 1) := by decide +kernel
theorem d_Law_law_452 : decode b_Law_law 452 = .ok (.iload_n 3, 1) := by decide +kernel
theorem d_Law_law_453 : decode b_Law_law 453 = .ok (.iconst 2, 1) := by decide +kernel
theorem d_Law_law_454 : decode b_Law_law 454 = .ok (.iadd, 1) := by decide +kernel
theorem d_Law_law_455 : decode b_Law_law 455 = .ok (.iaload, 1) := by decide +kernel
theorem d_Law_law_456 : decode b_Law_law 456 = .ok (.aload_n 0, 1) := by decide +kernel
theorem d_Law_law_457 : decode b_Law_law 457 = .ok (.iload_n 3, 1) := by decide +kernel
theorem d_Law_law_458 : decode b_Law_law 458 = .ok (.iconst 3, 1) := by decide +kernel
theorem d_Law_law_459 : decode b_Law_law 459 = .ok (.iadd, 1) := by decide +kernel
theorem d_Law_law_460 : decode b_Law_law 460 = .ok (.iaload, 1) := by decide +kernel
theorem d_Law_law_461 : decode b_Law_law 461 = .ok (.aload_n 0, 1) := by decide +kernel
theorem d_Law_law_462 : decode b_Law_law 462 = .ok (.iload_n 3, 1) := by decide +kernel
theorem d_Law_law_463 : decode b_Law_law 463 = .ok (.iconst 4, 1) := by decide +kernel
theorem d_Law_law_464 : decode b_Law_law 464 = .ok (.iadd, 1) := by decide +kernel
theorem d_Law_law_465 : decode b_Law_law 465 = .ok (.iaload, 1) := by decide +kernel
theorem d_Law_law_466 : decode b_Law_law 466 = .ok (.invokevirtual 42, 3) := by decide +kernel
theorem d_Law_law_469 : decode b_Law_law 469 = .ok (.if_icmp .eq 302, 3) := by decide +kernel
theorem d_Law_law_472 : decode b_Law_law 472 = .ok (.iconst 0, 1) := by decide +kernel
theorem d_Law_law_473 : decode b_Law_law 473 = .ok (.ireturn, 1) := by decide +kernel
theorem d_Law_law_474 : decode b_Law_law 474 = .ok (.aload_n 1, 1) := by decide +kernel
theorem d_Law_law_475 : decode b_Law_law 475 = .ok (.aload_n 0, 1) := by decide +kernel
theorem d_Law_law_476 : decode b_Law_law 476 = .ok (.iload_n 3, 1) := by decide +kernel
theorem d_Law_law_477 : decode b_Law_law 477 = .ok (.iconst 1, 1) := by decide +kernel
theorem d_Law_law_478 : decode b_Law_law 478 = .ok (.iadd, 1) := by decide +kernel
theorem d_Law_law_479 : decode b_Law_law 479 = .ok (.iaload, 1) := by decide +kernel
theorem d_Law_law_480 : decode b_Law_law 480 = .ok (.invokevirtual 43, 3) := by decide +kernel
theorem d_Law_law_483 : decode b_Law_law 483 = .ok (.aload_n 2, 1) := by decide +kernel
theorem d_Law_law_484 : decode b_Law_law 484 = .ok (.aload_n 0, 1) := by decide +kernel
theorem d_Law_law_485 : decode b_Law_law 485 = .ok (.iload_n 3, 1) := by decide +kernel
theorem d_Law_law_486 : decode b_Law_law 486 = .ok (.iconst 1, 1) := by decide +kernel
theorem d_Law_law_487 : decode b_Law_law 487 = .ok (.iadd, 1) := by decide +kernel
theorem d_Law_law_488 : decode b_Law_law 488 = .ok (.iaload, 1) := by decide +kernel
theorem d_Law_law_489 : decode b_Law_law 489 = .ok (.invokevirtual 47, 3) := by decide +kernel
theorem d_Law_law_492 : decode b_Law_law 492 = .ok (.if_icmp .eq 279, 3) := by decide +kernel
theorem d_Law_law_495 : decode b_Law_law 495 = .ok (.iconst 0, 1) := by decide +kernel
theorem d_Law_law_496 : decode b_Law_law 496 = .ok (.ireturn, 1) := by decide +kernel
theorem d_Law_law_497 : decode b_Law_law 497 = .ok (.aload_n 1, 1) := by decide +kernel
theorem d_Law_law_498 : decode b_Law_law 498 = .ok (.aload_n 0, 1) := by decide +kernel
theorem d_Law_law_499 : decode b_Law_law 499 = .ok (.iload_n 3, 1) := by decide +kernel
theorem d_Law_law_500 : decode b_Law_law 500 = .ok (.iconst 1, 1) := by decide +kernel
theorem d_Law_law_501 : decode b_Law_law 501 = .ok (.iadd, 1) := by decide +kernel
theorem d_Law_law_502 : decode b_Law_law 502 = .ok (.iaload, 1) := by decide +kernel
theorem d_Law_law_503 : decode b_Law_law 503 = .ok (.aload_n 0, 1) := by decide +kernel
theorem d_Law_law_504 : decode b_Law_law 504 = .ok (.iload_n 3, 1) := by decide +kernel
theorem d_Law_law_505 : decode b_Law_law 505 = .ok (.iconst 2, 1) := by decide +kernel
theorem d_Law_law_506 : decode b_Law_law 506 = .ok (.iadd, 1) := by decide +kernel
theorem d_Law_law_507 : decode b_Law_law 507 = .ok (.iaload, 1) := by decide +kernel
theorem d_Law_law_508 : decode b_Law_law 508 = .ok (.invokevirtual 48, 3) := by decide +kernel
theorem d_Law_law_511 : decode b_Law_law 511 = .ok (.aload_n 2, 1) := by decide +kernel
theorem d_Law_law_512 : decode b_Law_law 512 = .ok (.aload_n 0, 1) := by decide +kernel
theorem d_Law_law_513 : decode b_Law_law 513 = .ok (.iload_n 3, 1) := by decide +kernel
theorem d_Law_law_514 : decode b_Law_law 514 = .ok (.iconst 1, 1) := by decide +kernel
theorem d_Law_law_515 : decode b_Law_law 515 = .ok (.iadd, 1) := by decide +kernel
theorem d_Law_law_516 : decode b_Law_law 516 = .ok (.iaload, 1) := by decide +kernel
theorem d_Law_law_517 : decode b_Law_law 517 = .ok (.aload_n 0, 1) := by decide +kernel
theorem d_Law_law_518 : decode b_Law_law 518 = .ok (.iload_n 3, 1) := by decide +kernel
theorem d_Law_law_519 : decode b_Law_law 519 = .ok (.iconst 2, 1) := by decide +kernel
theorem d_Law_law_520 : decode b_Law_law 520 = .ok (.iadd, 1) := by decide +kernel
theorem d_Law_law_521 : decode b_Law_law 521 = .ok (.iaload, 1) := by decide +kernel
theorem d_Law_law_522 : decode b_Law_law 522 = .ok (.invokevirtual 51, 3) := by decide +kernel
theorem d_Law_law_525 : decode b_Law_law 525 = .ok (.if_icmp .eq 246, 3) := by decide +kernel
theorem d_Law_law_528 : decode b_Law_law 528 = .ok (.iconst 0, 1) := by decide +kernel
theorem d_Law_law_529 : decode b_Law_law 529 = .ok (.ireturn, 1) := by decide +kernel
theorem d_Law_law_530 : decode b_Law_law 530 = .ok (.aload_n 1, 1) := by decide +kernel
theorem d_Law_law_531 : decode b_Law_law 531 = .ok (.aload_n 0, 1) := by decide +kernel
theorem d_Law_law_532 : decode b_Law_law 532 = .ok (.iload_n 3, 1) := by decide +kernel
theorem d_Law_law_533 : decode b_Law_law 533 = .ok (.iconst 1, 1) := by decide +kernel
theorem d_Law_law_534 : decode b_Law_law 534 = .ok (.iadd, 1) := by decide +kernel
theorem d_Law_law_535 : decode b_Law_law 535 = .ok (.iaload, 1) := by decide +kernel
theorem d_Law_law_536 : decode b_Law_law 536 = .ok (.aload_n 0, 1) := by decide +kernel
theorem d_Law_law_537 : decode b_Law_law 537 = .ok (.iload_n 3, 1) := by decide +kernel
theorem d_Law_law_538 : decode b_Law_law 538 = .ok (.iconst 2, 1) := by decide +kernel
theorem d_Law_law_539 : decode b_Law_law 539 = .ok (.iadd, 1) := by decide +kernel
theorem d_Law_law_540 : decode b_Law_law 540 = .ok (.iaload, 1) := by decide +kernel
theorem d_Law_law_541 : decode b_Law_law 541 = .ok (.invokevirtual 52, 3) := by decide +kernel
theorem d_Law_law_544 : decode b_Law_law 544 = .ok (.aload_n 2, 1) := by decide +kernel
theorem d_Law_law_545 : decode b_Law_law 545 = .ok (.aload_n 0, 1) := by decide +kernel
theorem d_Law_law_546 : decode b_Law_law 546 = .ok (.iload_n 3, 1) := by decide +kernel
theorem d_Law_law_547 : decode b_Law_law 547 = .ok (.iconst 1, 1) := by decide +kernel
theorem d_Law_law_548 : decode b_Law_law 548 = .ok (.iadd, 1) := by decide +kernel
theorem d_Law_law_549 : decode b_Law_law 549 = .ok (.iaload, 1) := by decide +kernel
theorem d_Law_law_550 : decode b_Law_law 550 = .ok (.aload_n 0, 1) := by decide +kernel
theorem d_Law_law_551 : decode b_Law_law 551 = .ok (.iload_n 3, 1) := by decide +kernel
theorem d_Law_law_552 : decode b_Law_law 552 = .ok (.iconst 2, 1) := by decide +kernel
theorem d_Law_law_553 : decode b_Law_law 553 = .ok (.iadd, 1) := by decide +kernel
theorem d_Law_law_554 : decode b_Law_law 554 = .ok (.iaload, 1) := by decide +kernel
theorem d_Law_law_555 : decode b_Law_law 555 = .ok (.invokevirtual 55, 3) := by decide +kernel
theorem d_Law_law_558 : decode b_Law_law 558 = .ok (.if_icmp .eq 213, 3) := by decide +kernel
theorem d_Law_law_561 : decode b_Law_law 561 = .ok (.iconst 0, 1) := by decide +kernel
theorem d_Law_law_562 : decode b_Law_law 562 = .ok (.ireturn, 1) := by decide +kernel
theorem d_Law_law_563 : decode b_Law_law 563 = .ok (.aload_n 1, 1) := by decide +kernel
theorem d_Law_law_564 : decode b_Law_law 564 = .ok (.aload_n 0, 1) := by decide +kernel
theorem d_Law_law_565 : decode b_Law_law 565 = .ok (.iload_n 3, 1) := by decide +kernel
theorem d_Law_law_566 : decode b_Law_law 566 = .ok (.iconst 1, 1) := by decide +kernel
theorem d_Law_law_567 : decode b_Law_law 567 = .ok (.iadd, 1) := by decide +kernel
theorem d_Law_law_568 : decode b_Law_law 568 = .ok (.iaload, 1) := by decide +kernel
theorem d_Law_law_569 : decode b_Law_law 569 = .ok (.aload_n 0, 1) := by decide +kernel
theorem d_Law_law_570 : decode b_Law_law 570 = .ok (.iload_n 3, 1) := by decide +kernel
theorem d_Law_law_571 : decode b_Law_law 571 = .ok (.iconst 2, 1) := by decide +kernel
theorem d_Law_law_572 : decode b_Law_law 572 = .ok (.iadd, 1) := by decide +kernel
theorem d_Law_law_573 : decode b_Law_law 573 = .ok (.iaload, 1) := by decide +kernel
theorem d_Law_law_574 : decode b_Law_law 574 = .ok (.invokevirtual 56, 3) := by decide +kernel
theorem d_Law_law_577 : decode b_Law_law 577 = .ok (.aload_n 2, 1) := by decide +kernel
theorem d_Law_law_578 : decode b_Law_law 578 = .ok (.aload_n 0, 1) := by decide +kernel
theorem d_Law_law_579 : decode b_Law_law 579 = .ok (.iload_n 3, 1) := by decide +kernel
theorem d_Law_law_580 : decode b_Law_law 580 = .ok (.iconst 1, 1) := by decide +kernel
theorem d_Law_law_581 : decode b_Law_law 581 = .ok (.iadd, 1) := by decide +kernel
theorem d_Law_law_582 : decode b_Law_law 582 = .ok (.iaload, 1) := by decide +kernel
theorem d_Law_law_583 : decode b_Law_law 583 = .ok (.aload_n 0, 1) := by decide +kernel
theorem d_Law_law_584 : decode b_Law_law 584 = .ok (.iload_n 3, 1) := by decide +kernel
theorem d_Law_law_585 : decode b_Law_law 585 = .ok (.iconst 2, 1) := by decide +kernel
theorem d_Law_law_586 : decode b_Law_law 586 = .ok (.iadd, 1) := by decide +kernel
theorem d_Law_law_587 : decode b_Law_law 587 = .ok (.iaload, 1) := by decide +kernel
theorem d_Law_law_588 : decode b_Law_law 588 = .ok (.invokevirtual 59, 3) := by decide +kernel
theorem d_Law_law_591 : decode b_Law_law 591 = .ok (.if_icmp .eq 180, 3) := by decide +kernel
theorem d_Law_law_594 : decode b_Law_law 594 = .ok (.iconst 0, 1) := by decide +kernel
theorem d_Law_law_595 : decode b_Law_law 595 = .ok (.ireturn, 1) := by decide +kernel
theorem d_Law_law_596 : decode b_Law_law 596 = .ok (.aload_n 1, 1) := by decide +kernel
theorem d_Law_law_597 : decode b_Law_law 597 = .ok (.aload_n 0, 1) := by decide +kernel
theorem d_Law_law_598 : decode b_Law_law 598 = .ok (.iload_n 3, 1) := by decide +kernel
theorem d_Law_law_599 : decode b_Law_law 599 = .ok (.iconst 1, 1) := by decide +kernel
theorem d_Law_law_600 : decode b_Law_law 600 = .ok (.iadd, 1) := by decide +kernel
theorem d_Law_law_601 : decode b_Law_law 601 = .ok (.iaload, 1) := by decide +kernel
theorem d_Law_law_602 : decode b_Law_law 602 = .ok (.aload_n 0, 1) := by decide +kernel
theorem d_Law_law_603 : decode b_Law_law 603 = .ok (.iload_n 3, 1) := by decide +kernel
theorem d_Law_law_604 : decode b_Law_law 604 = .ok (.iconst 2, 1) := by decide +kernel
theorem d_Law_law_605 : decode b_Law_law 605 = .ok (.iadd, 1) := by decide +kernel
theorem d_Law_law_606 : decode b_Law_law 606 = .ok (.iaload, 1) := by decide +kernel
theorem d_Law_law_607 : decode b_Law_law 607 = .ok (.invokevirtual 60, 3) := by decide +kernel
theorem d_Law_law_610 : decode b_Law_law 610 = .ok (.aload_n 2, 1) := by decide +kernel
theorem d_Law_law_611 : decode b_Law_law 611 = .ok (.aload_n 0, 1) := by decide +kernel
theorem d_Law_law_612 : decode b_Law_law 612 = .ok (.iload_n 3, 1) := by decide +kernel
theorem d_Law_law_613 : decode b_Law_law 613 = .ok (.iconst 1, 1) := by decide +kernel
theorem d_Law_law_614 : decode b_Law_law 614 = .ok (.iadd, 1) := by decide +kernel
theorem d_Law_law_615 : decode b_Law_law 615 = .ok (.iaload, 1) := by decide +kernel
theorem d_Law_law_616 : decode b_Law_law 616 = .ok (.aload_n 0, 1) := by decide +kernel
theorem d_Law_law_617 : decode b_Law_law 617 = .ok (.iload_n 3, 1) := by decide +kernel
theorem d_Law_law_618 : decode b_Law_law 618 = .ok (.iconst 2, 1) := by decide +kernel
theorem d_Law_law_619 : decode b_Law_law 619 = .ok (.iadd, 1) := by decide +kernel
theorem d_Law_law_620 : decode b_Law_law 620 = .ok (.iaload, 1) := by decide +kernel
theorem d_Law_law_621 : decode b_Law_law 621 = .ok (.invokevirtual 63, 3) := by decide +kernel
theorem d_Law_law_624 : decode b_Law_law 624 = .ok (.if_icmp .eq 147, 3) := by decide +kernel
theorem d_Law_law_627 : decode b_Law_law 627 = .ok (.iconst 0, 1) := by decide +kernel
theorem d_Law_law_628 : decode b_Law_law 628 = .ok (.ireturn, 1) := by decide +kernel
theorem d_Law_law_629 : decode b_Law_law 629 = .ok (.aload_n 1, 1) := by decide +kernel
theorem d_Law_law_630 : decode b_Law_law 630 = .ok (.aload_n 0, 1) := by decide +kernel
theorem d_Law_law_631 : decode b_Law_law 631 = .ok (.iload_n 3, 1) := by decide +kernel
theorem d_Law_law_632 : decode b_Law_law 632 = .ok (.iconst 1, 1) := by decide +kernel
theorem d_Law_law_633 : decode b_Law_law 633 = .ok (.iadd, 1) := by decide +kernel
theorem d_Law_law_634 : decode b_Law_law 634 = .ok (.iaload, 1) := by decide +kernel
theorem d_Law_law_635 : decode b_Law_law 635 = .ok (.aload_n 0, 1) := by decide +kernel
theorem d_Law_law_636 : decode b_Law_law 636 = .ok (.iload_n 3, 1) := by decide +kernel
theorem d_Law_law_637 : decode b_Law_law 637 = .ok (.iconst 2, 1) := by decide +kernel
theorem d_Law_law_638 : decode b_Law_law 638 = .ok (.iadd, 1) := by decide +kernel
theorem d_Law_law_639 : decode b_Law_law 639 = .ok (.iaload, 1) := by decide +kernel
theorem d_Law_law_640 : decode b_Law_law 640 = .ok (.aload_n 0, 1) := by decide +kernel
theorem d_Law_law_641 : decode b_Law_law 641 = .ok (.iload_n 3, 1) := by decide +kernel
theorem d_Law_law_642 : decode b_Law_law 642 = .ok (.iconst 3, 1) := by decide +kernel
theorem d_Law_law_643 : decode b_Law_law 643 = .ok (.iadd, 1) := by decide +kernel
theorem d_Law_law_644 : decode b_Law_law 644 = .ok (.iaload, 1) := by decide +kernel
theorem d_Law_law_645 : decode b_Law_law 645 = .ok (.aload_n 0, 1) := by decide +kernel
theorem d_Law_law_646 : decode b_Law_law 646 = .ok (.iload_n 3, 1) := by decide +kernel
theorem d_Law_law_647 : decode b_Law_law 647 = .ok (.iconst 4, 1) := by decide +kernel
theorem d_Law_law_648 : decode b_Law_law 648 = .ok (.iadd, 1) := by decide +kernel
theorem d_Law_law_649 : decode b_Law_law 649 = .ok (.iaload, 1) := by decide +kernel
theorem d_Law_law_650 : decode b_Law_law 650 = .ok (.invokevirtual 64, 3) := by decide +kernel
theorem d_Law_law_653 : decode b_Law_law 653 = .ok (.aload_n 2, 1) := by decide +kernel
theorem d_Law_law_654 : decode b_Law_law 654 = .ok (.aload_n 0, 1) := by decide +kernel
theorem d_Law_law_655 : decode b_Law_law 655 = .ok (.iload_n 3, 1) := by decide +kernel
theorem d_Law_law_656 : decode b_Law_law 656 = .ok (.iconst 1, 1) := by decide +kernel
theorem d_Law_law_657 : decode b_Law_law 657 = .ok (.iadd, 1) := by decide +kernel
theorem d_Law_law_658 : decode b_Law_law 658 = .ok (.iaload, 1) := by decide +kernel
theorem d_Law_law_659 : decode b_Law_law 659 = .ok (.aload_n 0, 1) := by decide +kernel
theorem d_Law_law_660 : decode b_Law_law 660 = .ok (.iload_n 3, 1) := by decide +kernel
theorem d_Law_law_661 : decode b_Law_law 661 = .ok (.iconst 2, 1) := by decide +kernel
theorem d_Law_law_662 : decode b_Law_law 662 = .ok (.iadd, 1) := by decide +kernel
theorem d_Law_law_663 : decode b_Law_law 663 = .ok (.iaload, 1) := by decide +kernel
theorem d_Law_law_664 : decode b_Law_law 664 = .ok (.aload_n 0, 1) := by decide +kernel
theorem d_Law_law_665 : decode b_Law_law 665 = .ok (.iload_n 3, 1) := by decide +kernel
theorem d_Law_law_666 : decode b_Law_law 666 = .ok (.iconst 3, 1) := by decide +kernel
theorem d_Law_law_667 : decode b_Law_law 667 = .ok (.iadd, 1) := by decide +kernel
theorem d_Law_law_668 : decode b_Law_law 668 = .ok (.iaload, 1) := by decide +kernel
theorem d_Law_law_669 : decode b_Law_law 669 = .ok (.aload_n 0, 1) := by decide +kernel
theorem d_Law_law_670 : decode b_Law_law 670 = .ok (.iload_n 3, 1) := by decide +kernel
theorem d_Law_law_671 : decode b_Law_law 671 = .ok (.iconst 4, 1) := by decide +kernel
theorem d_Law_law_672 : decode b_Law_law 672 = .ok (.iadd, 1) := by decide +kernel
theorem d_Law_law_673 : decode b_Law_law 673 = .ok (.iaload, 1) := by decide +kernel
theorem d_Law_law_674 : decode b_Law_law 674 = .ok (.invokevirtual 67, 3) := by decide +kernel
theorem d_Law_law_677 : decode b_Law_law 677 = .ok (.if_icmp .eq 94, 3) := by decide +kernel
theorem d_Law_law_680 : decode b_Law_law 680 = .ok (.iconst 0, 1) := by decide +kernel
theorem d_Law_law_681 : decode b_Law_law 681 = .ok (.ireturn, 1) := by decide +kernel
theorem d_Law_law_682 : decode b_Law_law 682 = .ok (.aload_n 1, 1) := by decide +kernel
theorem d_Law_law_683 : decode b_Law_law 683 = .ok (.aload_n 0, 1) := by decide +kernel
theorem d_Law_law_684 : decode b_Law_law 684 = .ok (.iload_n 3, 1) := by decide +kernel
theorem d_Law_law_685 : decode b_Law_law 685 = .ok (.iconst 1, 1) := by decide +kernel
theorem d_Law_law_686 : decode b_Law_law 686 = .ok (.iadd, 1) := by decide +kernel
theorem d_Law_law_687 : decode b_Law_law 687 = .ok (.iaload, 1) := by decide +kernel
theorem d_Law_law_688 : decode b_Law_law 688 = .ok (.aload_n 0, 1) := by decide +kernel
theorem d_Law_law_689 : decode b_Law_law 689 = .ok (.iload_n 3, 1) := by decide +kernel
theorem d_Law_law_690 : decode b_Law_law 690 = .ok (.iconst 2, 1) := by decide +kernel
theorem d_Law_law_691 : decode b_Law_law 691 = .ok (.iadd, 1) := by decide +kernel
theorem d_Law_law_692 : decode b_Law_law 692 = .ok (.iaload, 1) := by decide +kernel
theorem d_Law_law_693 : decode b_Law_law 693 = .ok (.invokevirtual 68, 3) := by decide +kernel
theorem d_Law_law_696 : decode b_Law_law 696 = .ok (.aload_n 2, 1) := by decide +kernel
theorem d_Law_law_697 : decode b_Law_law 697 = .ok (.aload_n 0, 1) := by decide +kernel
theorem d_Law_law_698 : decode b_Law_law 698 = .ok (.iload_n 3, 1) := by decide +kernel
theorem d_Law_law_699 : decode b_Law_law 699 = .ok (.iconst 1, 1) := by decide +kernel
theorem d_Law_law_700 : decode b_Law_law 700 = .ok (.iadd, 1) := by decide +kernel
theorem d_Law_law_701 : decode b_Law_law 701 = .ok (.iaload, 1) := by decide +kernel
theorem d_Law_law_702 : decode b_Law_law 702 = .ok (.aload_n 0, 1) := by decide +kernel
theorem d_Law_law_703 : decode b_Law_law 703 = .ok (.iload_n 3, 1) := by decide +kernel
theorem d_Law_law_704 : decode b_Law_law 704 = .ok (.iconst 2, 1) := by decide +kernel
theorem d_Law_law_705 : decode b_Law_law 705 = .ok (.iadd, 1) := by decide +kernel
theorem d_Law_law_706 : decode b_Law_law 706 = .ok (.iaload, 1) := by decide +kernel
theorem d_Law_law_707 : decode b_Law_law 707 = .ok (.invokevirtual 71, 3) := by decide +kernel
theorem d_Law_law_710 : decode b_Law_law 710 = .ok (.if_icmp .eq 61, 3) := by decide +kernel
theorem d_Law_law_713 : decode b_Law_law 713 = .ok (.iconst 0, 1) := by decide +kernel
theorem d_Law_law_714 : decode b_Law_law 714 = .ok (.ireturn, 1) := by decide +kernel
theorem d_Law_law_715 : decode b_Law_law 715 = .ok (.aload_n 1, 1) := by decide +kernel
theorem d_Law_law_716 : decode b_Law_law 716 = .ok (.aload_n 0, 1) := by decide +kernel
theorem d_Law_law_717 : decode b_Law_law 717 = .ok (.iload_n 3, 1) := by decide +kernel
theorem d_Law_law_718 : decode b_Law_law 718 = .ok (.iconst 1, 1) := by decide +kernel
theorem d_Law_law_719 : decode b_Law_law 719 = .ok (.iadd, 1) := by decide +kernel
theorem d_Law_law_720 : decode b_Law_law 720 = .ok (.iaload, 1) := by decide +kernel
theorem d_Law_law_721 : decode b_Law_law 721 = .ok (.aload_n 0, 1) := by decide +kernel
theorem d_Law_law_722 : decode b_Law_law 722 = .ok (.iload_n 3, 1) := by decide +kernel
theorem d_Law_law_723 : decode b_Law_law 723 = .ok (.iconst 2, 1) := by decide +kernel
theorem d_Law_law_724 : decode b_Law_law 724 = .ok (.iadd, 1) := by decide +kernel
theorem d_Law_law_725 : decode b_Law_law 725 = .ok (.iaload, 1) := by decide +kernel
theorem d_Law_law_726 : decode b_Law_law 726 = .ok (.invokevirtual 72, 3) := by decide +kernel
theorem d_Law_law_729 : decode b_Law_law 729 = .ok (.aload_n 2, 1) := by decide +kernel
theorem d_Law_law_730 : decode b_Law_law 730 = .ok (.aload_n 0, 1) := by decide +kernel
theorem d_Law_law_731 : decode b_Law_law 731 = .ok (.iload_n 3, 1) := by decide +kernel
theorem d_Law_law_732 : decode b_Law_law 732 = .ok (.iconst 1, 1) := by decide +kernel
theorem d_Law_law_733 : decode b_Law_law 733 = .ok (.iadd, 1) := by decide +kernel
theorem d_Law_law_734 : decode b_Law_law 734 = .ok (.iaload, 1) := by decide +kernel
theorem d_Law_law_735 : decode b_Law_law 735 = .ok (.aload_n 0, 1) := by decide +kernel
theorem d_Law_law_736 : decode b_Law_law 736 = .ok (.iload_n 3, 1) := by decide +kernel
theorem d_Law_law_737 : decode b_Law_law 737 = .ok (.iconst 2, 1) := by decide +kernel
theorem d_Law_law_738 : decode b_Law_law 738 = .ok (.iadd, 1) := by decide +kernel
theorem d_Law_law_739 : decode b_Law_law 739 = .ok (.iaload, 1) := by decide +kernel
theorem d_Law_law_740 : decode b_Law_law 740 = .ok (.invokevirtual 75, 3) := by decide +kernel
theorem d_Law_law_743 : decode b_Law_law 743 = .ok (.if_icmp .eq 28, 3) := by decide +kernel
theorem d_Law_law_746 : decode b_Law_law 746 = .ok (.iconst 0, 1) := by decide +kernel
theorem d_Law_law_747 : decode b_Law_law 747 = .ok (.ireturn, 1) := by decide +kernel
theorem d_Law_law_748 : decode b_Law_law 748 = .ok (.aload_n 1, 1) := by decide +kernel
theorem d_Law_law_749 : decode b_Law_law 749 = .ok (.aload_n 0, 1) := by decide +kernel
theorem d_Law_law_750 : decode b_Law_law 750 = .ok (.iload_n 3, 1) := by decide +kernel
theorem d_Law_law_751 : decode b_Law_law 751 = .ok (.iconst 1, 1) := by decide +kernel
theorem d_Law_law_752 : decode b_Law_law 752 = .ok (.iadd, 1) := by decide +kernel
theorem d_Law_law_753 : decode b_Law_law 753 = .ok (.iaload, 1) := by decide +kernel
theorem d_Law_law_754 : decode b_Law_law 754 = .ok (.invokevirtual 76, 3) := by decide +kernel
theorem d_Law_law_757 : decode b_Law_law 757 = .ok (.aload_n 2, 1) := by decide +kernel
theorem d_Law_law_758 : decode b_Law_law 758 = .ok (.aload_n 0, 1) := by decide +kernel
theorem d_Law_law_759 : decode b_Law_law 759 = .ok (.iload_n 3, 1) := by decide +kernel
theorem d_Law_law_760 : decode b_Law_law 760 = .ok (.iconst 1, 1) := by decide +kernel
theorem d_Law_law_761 : decode b_Law_law 761 = .ok (.iadd, 1) := by decide +kernel
theorem d_Law_law_762 : decode b_Law_law 762 = .ok (.iaload, 1) := by decide +kernel
theorem d_Law_law_763 : decode b_Law_law 763 = .ok (.invokevirtual 79, 3) := by decide +kernel
theorem d_Law_law_766 : decode b_Law_law 766 = .ok (.if_icmp .eq 5, 3) := by decide +kernel
theorem d_Law_law_769 : decode b_Law_law 769 = .ok (.iconst 0, 1) := by decide +kernel
theorem d_Law_law_770 : decode b_Law_law 770 = .ok (.ireturn, 1) := by decide +kernel
theorem d_Law_law_771 : decode b_Law_law 771 = .ok (.iinc 3 7, 3) := by decide +kernel
theorem d_Law_law_774 : decode b_Law_law 774 = .ok (.goto (-756), 3) := by decide +kernel
theorem d_Law_law_777 : decode b_Law_law 777 = .ok (.iconst 1, 1) := by decide +kernel
theorem d_Law_law_778 : decode b_Law_law 778 = .ok (.ireturn, 1) := by decide +kernel
end
section
def f_Packs_add (l1 : Int32) (s : Sg) : Ro :=
  if inb (s 1 0) 10 = true then
  if isb l1 = true then
  some (((wr (wr s 2 (ix (s 1 0)) l1) 1 0 (((wr s 2 (ix (s 1 0)) l1) 1 0) + 1)) 1 0) - 1, wr (wr s 2 (ix (s 1 0)) l1) 1 0 (((wr s 2 (ix (s 1 0)) l1) 1 0) + 1)) else none else none
def f_FU_pack (l1 : Int32) (s : Sg) : Ro :=
  if (s 1 0) < 10 then
    bnd (f_Packs_add l1 (wr s 0 10 0)) (fun v1 s1 =>
    some (v1, s1))
  else
    some ((-1), s)
def f_FU_within (l0 l1 : Int32) (s : Sg) : Ro :=
  if l0 < 0 then
    some (0, s)
  else
    if l1 ≤ l0 then
      some (0, s)
    else
      some (1, s)
def f_Packs_has (l1 : Int32) (s : Sg) : Ro :=
  bnd (f_FU_within l1 (s 1 0) s) (fun v1 s1 =>
  if isb v1 = true then some (v1, s1) else none)
def f_Feats_find_2  (l1 l2 : Int32) : Int32 → Sg → Ro := itr1 (fun rec2 l3 s =>
  if (s 3 0) ≤ l3 then
    some ((-1), s)
  else
    if inb l3 60 = true then
    if (s 4 (ix l3)) = l1 then
      if inb l3 60 = true then
      if (s 5 (ix l3)) = l2 then
        some (l3, s)
      else
        rec2 (l3 + 1) s else none
    else
      rec2 (l3 + 1) s else none) 4096
def f_Feats_find (l1 l2 : Int32) (s : Sg) : Ro :=
  f_Feats_find_2 l1 l2 0 s
def f_Feats_countOf_4  (l1 : Int32) : Int32 → Int32 → Sg → Ro := itr2 (fun rec4 l2 l3 s =>
  if (s 3 0) ≤ l3 then
    some (l2, s)
  else
    if inb l3 60 = true then
    if (s 4 (ix l3)) = l1 then
      rec4 (l2 + 1) (l3 + 1) s
    else
      rec4 l2 (l3 + 1) s else none) 4096
def f_Feats_countOf (l1 : Int32) (s : Sg) : Ro :=
  f_Feats_countOf_4 l1 0 0 s
def f_Feats_add (l1 l2 l3 l4 : Int32) (s : Sg) : Ro :=
  if inb (s 3 0) 60 = true then
  if inb ((wr s 4 (ix (s 3 0)) l1) 3 0) 60 = true then
  if inb ((wr (wr s 4 (ix (s 3 0)) l1) 5 (ix ((wr s 4 (ix (s 3 0)) l1) 3 0)) l2) 3 0) 60 = true then
  if inb ((wr (wr (wr s 4 (ix (s 3 0)) l1) 5 (ix ((wr s 4 (ix (s 3 0)) l1) 3 0)) l2) 6 (ix ((wr (wr s 4 (ix (s 3 0)) l1) 5 (ix ((wr s 4 (ix (s 3 0)) l1) 3 0)) l2) 3 0)) l4) 3 0) 60 = true then
  if isb l3 = true then
  some (((wr (wr (wr (wr (wr s 4 (ix (s 3 0)) l1) 5 (ix ((wr s 4 (ix (s 3 0)) l1) 3 0)) l2) 6 (ix ((wr (wr s 4 (ix (s 3 0)) l1) 5 (ix ((wr s 4 (ix (s 3 0)) l1) 3 0)) l2) 3 0)) l4) 7 (ix ((wr (wr (wr s 4 (ix (s 3 0)) l1) 5 (ix ((wr s 4 (ix (s 3 0)) l1) 3 0)) l2) 6 (ix ((wr (wr s 4 (ix (s 3 0)) l1) 5 (ix ((wr s 4 (ix (s 3 0)) l1) 3 0)) l2) 3 0)) l4) 3 0)) l3) 3 0 (((wr (wr (wr (wr s 4 (ix (s 3 0)) l1) 5 (ix ((wr s 4 (ix (s 3 0)) l1) 3 0)) l2) 6 (ix ((wr (wr s 4 (ix (s 3 0)) l1) 5 (ix ((wr s 4 (ix (s 3 0)) l1) 3 0)) l2) 3 0)) l4) 7 (ix ((wr (wr (wr s 4 (ix (s 3 0)) l1) 5 (ix ((wr s 4 (ix (s 3 0)) l1) 3 0)) l2) 6 (ix ((wr (wr s 4 (ix (s 3 0)) l1) 5 (ix ((wr s 4 (ix (s 3 0)) l1) 3 0)) l2) 3 0)) l4) 3 0)) l3) 3 0) + 1)) 3 0) - 1, wr (wr (wr (wr (wr s 4 (ix (s 3 0)) l1) 5 (ix ((wr s 4 (ix (s 3 0)) l1) 3 0)) l2) 6 (ix ((wr (wr s 4 (ix (s 3 0)) l1) 5 (ix ((wr s 4 (ix (s 3 0)) l1) 3 0)) l2) 3 0)) l4) 7 (ix ((wr (wr (wr s 4 (ix (s 3 0)) l1) 5 (ix ((wr s 4 (ix (s 3 0)) l1) 3 0)) l2) 6 (ix ((wr (wr s 4 (ix (s 3 0)) l1) 5 (ix ((wr s 4 (ix (s 3 0)) l1) 3 0)) l2) 3 0)) l4) 3 0)) l3) 3 0 (((wr (wr (wr (wr s 4 (ix (s 3 0)) l1) 5 (ix ((wr s 4 (ix (s 3 0)) l1) 3 0)) l2) 6 (ix ((wr (wr s 4 (ix (s 3 0)) l1) 5 (ix ((wr s 4 (ix (s 3 0)) l1) 3 0)) l2) 3 0)) l4) 7 (ix ((wr (wr (wr s 4 (ix (s 3 0)) l1) 5 (ix ((wr s 4 (ix (s 3 0)) l1) 3 0)) l2) 6 (ix ((wr (wr s 4 (ix (s 3 0)) l1) 5 (ix ((wr s 4 (ix (s 3 0)) l1) 3 0)) l2) 3 0)) l4) 3 0)) l3) 3 0) + 1)) else none else none else none else none else none
def f_FU_feature (l1 l2 l3 l4 : Int32) (s : Sg) : Ro :=
  bnd (f_Packs_has l1 s) (fun v1 s1 =>
  if v1 = 0 then
    some ((-1), s1)
  else
    bnd (f_FU_within l2 32 s1) (fun v2 s2 =>
    if v2 = 0 then
      some ((-1), s2)
    else
      bnd (f_FU_within l4 8 s2) (fun v3 s3 =>
      if v3 = 0 then
        some ((-1), s3)
      else
        bnd (f_Feats_find l1 l2 s3) (fun v4 s4 =>
        if v4 = (-1) then
          bnd (f_Feats_countOf l1 s4) (fun v5 s5 =>
          if 10 ≤ v5 then
            some ((-1), s5)
          else
            if (s5 3 0) < 60 then
              bnd (f_Feats_add l1 l2 l3 l4 (wr s5 0 10 0)) (fun v6 s6 =>
              some (v6, s6))
            else
              some ((-1), s5))
        else
          some ((-1), s4)))))
def f_FU_bit (l0 l1 : Int32) (s : Sg) : Ro :=
  if ((l0 >>> (l1 &&& 31)) &&& 1) = 1 then
    some (1, s)
  else
    some (0, s)
def f_Packs_makeRoot (l1 l2 : Int32) (s : Sg) : Ro :=
  if l2 = 0 then
    some (0, wr s 1 1 ((s 1 1) ||| (1 <<< (l1 &&& 31))))
  else
    some (0, wr (wr s 1 1 ((s 1 1) ||| (1 <<< (l1 &&& 31)))) 1 2 (((wr s 1 1 ((s 1 1) ||| (1 <<< (l1 &&& 31)))) 1 2) ||| (1 <<< (l1 &&& 31))))
def f_FU_root (l1 l2 : Int32) (s : Sg) : Ro :=
  bnd (f_Packs_has l1 s) (fun v1 s1 =>
  if v1 = 0 then
    some (0, s1)
  else
    bnd (f_FU_bit (s1 1 1) l1 s1) (fun v2 s2 =>
    if v2 = 0 then
      bnd (f_Packs_makeRoot l1 l2 (wr s2 0 10 0)) (fun v3 s3 =>
      some (1, s3))
    else
      some (0, s2)))
def f_Users_add (l1 l2 l3 l4 l5 l6 : Int32) (s : Sg) : Ro :=
  if inb (s 8 0) 40 = true then
  if inb ((wr s 9 (ix (s 8 0)) l1) 8 0) 40 = true then
  if inb ((wr (wr s 9 (ix (s 8 0)) l1) 10 (ix ((wr s 9 (ix (s 8 0)) l1) 8 0)) l2) 8 0) 40 = true then
  if isb l3 = true then
  if inb ((wr (wr (wr s 9 (ix (s 8 0)) l1) 10 (ix ((wr s 9 (ix (s 8 0)) l1) 8 0)) l2) 13 (ix ((wr (wr s 9 (ix (s 8 0)) l1) 10 (ix ((wr s 9 (ix (s 8 0)) l1) 8 0)) l2) 8 0)) l3) 8 0) 40 = true then
  if isb l4 = true then
  if inb ((wr (wr (wr (wr s 9 (ix (s 8 0)) l1) 10 (ix ((wr s 9 (ix (s 8 0)) l1) 8 0)) l2) 13 (ix ((wr (wr s 9 (ix (s 8 0)) l1) 10 (ix ((wr s 9 (ix (s 8 0)) l1) 8 0)) l2) 8 0)) l3) 14 (ix ((wr (wr (wr s 9 (ix (s 8 0)) l1) 10 (ix ((wr s 9 (ix (s 8 0)) l1) 8 0)) l2) 13 (ix ((wr (wr s 9 (ix (s 8 0)) l1) 10 (ix ((wr s 9 (ix (s 8 0)) l1) 8 0)) l2) 8 0)) l3) 8 0)) l4) 8 0) 40 = true then
  if isb l5 = true then
  if inb ((wr (wr (wr (wr (wr s 9 (ix (s 8 0)) l1) 10 (ix ((wr s 9 (ix (s 8 0)) l1) 8 0)) l2) 13 (ix ((wr (wr s 9 (ix (s 8 0)) l1) 10 (ix ((wr s 9 (ix (s 8 0)) l1) 8 0)) l2) 8 0)) l3) 14 (ix ((wr (wr (wr s 9 (ix (s 8 0)) l1) 10 (ix ((wr s 9 (ix (s 8 0)) l1) 8 0)) l2) 13 (ix ((wr (wr s 9 (ix (s 8 0)) l1) 10 (ix ((wr s 9 (ix (s 8 0)) l1) 8 0)) l2) 8 0)) l3) 8 0)) l4) 15 (ix ((wr (wr (wr (wr s 9 (ix (s 8 0)) l1) 10 (ix ((wr s 9 (ix (s 8 0)) l1) 8 0)) l2) 13 (ix ((wr (wr s 9 (ix (s 8 0)) l1) 10 (ix ((wr s 9 (ix (s 8 0)) l1) 8 0)) l2) 8 0)) l3) 14 (ix ((wr (wr (wr s 9 (ix (s 8 0)) l1) 10 (ix ((wr s 9 (ix (s 8 0)) l1) 8 0)) l2) 13 (ix ((wr (wr s 9 (ix (s 8 0)) l1) 10 (ix ((wr s 9 (ix (s 8 0)) l1) 8 0)) l2) 8 0)) l3) 8 0)) l4) 8 0)) l5) 8 0) 40 = true then
  some (((wr (wr (wr (wr (wr (wr (wr s 9 (ix (s 8 0)) l1) 10 (ix ((wr s 9 (ix (s 8 0)) l1) 8 0)) l2) 13 (ix ((wr (wr s 9 (ix (s 8 0)) l1) 10 (ix ((wr s 9 (ix (s 8 0)) l1) 8 0)) l2) 8 0)) l3) 14 (ix ((wr (wr (wr s 9 (ix (s 8 0)) l1) 10 (ix ((wr s 9 (ix (s 8 0)) l1) 8 0)) l2) 13 (ix ((wr (wr s 9 (ix (s 8 0)) l1) 10 (ix ((wr s 9 (ix (s 8 0)) l1) 8 0)) l2) 8 0)) l3) 8 0)) l4) 15 (ix ((wr (wr (wr (wr s 9 (ix (s 8 0)) l1) 10 (ix ((wr s 9 (ix (s 8 0)) l1) 8 0)) l2) 13 (ix ((wr (wr s 9 (ix (s 8 0)) l1) 10 (ix ((wr s 9 (ix (s 8 0)) l1) 8 0)) l2) 8 0)) l3) 14 (ix ((wr (wr (wr s 9 (ix (s 8 0)) l1) 10 (ix ((wr s 9 (ix (s 8 0)) l1) 8 0)) l2) 13 (ix ((wr (wr s 9 (ix (s 8 0)) l1) 10 (ix ((wr s 9 (ix (s 8 0)) l1) 8 0)) l2) 8 0)) l3) 8 0)) l4) 8 0)) l5) 11 (ix ((wr (wr (wr (wr (wr s 9 (ix (s 8 0)) l1) 10 (ix ((wr s 9 (ix (s 8 0)) l1) 8 0)) l2) 13 (ix ((wr (wr s 9 (ix (s 8 0)) l1) 10 (ix ((wr s 9 (ix (s 8 0)) l1) 8 0)) l2) 8 0)) l3) 14 (ix ((wr (wr (wr s 9 (ix (s 8 0)) l1) 10 (ix ((wr s 9 (ix (s 8 0)) l1) 8 0)) l2) 13 (ix ((wr (wr s 9 (ix (s 8 0)) l1) 10 (ix ((wr s 9 (ix (s 8 0)) l1) 8 0)) l2) 8 0)) l3) 8 0)) l4) 15 (ix ((wr (wr (wr (wr s 9 (ix (s 8 0)) l1) 10 (ix ((wr s 9 (ix (s 8 0)) l1) 8 0)) l2) 13 (ix ((wr (wr s 9 (ix (s 8 0)) l1) 10 (ix ((wr s 9 (ix (s 8 0)) l1) 8 0)) l2) 8 0)) l3) 14 (ix ((wr (wr (wr s 9 (ix (s 8 0)) l1) 10 (ix ((wr s 9 (ix (s 8 0)) l1) 8 0)) l2) 13 (ix ((wr (wr s 9 (ix (s 8 0)) l1) 10 (ix ((wr s 9 (ix (s 8 0)) l1) 8 0)) l2) 8 0)) l3) 8 0)) l4) 8 0)) l5) 8 0)) l6) 8 0 (((wr (wr (wr (wr (wr (wr s 9 (ix (s 8 0)) l1) 10 (ix ((wr s 9 (ix (s 8 0)) l1) 8 0)) l2) 13 (ix ((wr (wr s 9 (ix (s 8 0)) l1) 10 (ix ((wr s 9 (ix (s 8 0)) l1) 8 0)) l2) 8 0)) l3) 14 (ix ((wr (wr (wr s 9 (ix (s 8 0)) l1) 10 (ix ((wr s 9 (ix (s 8 0)) l1) 8 0)) l2) 13 (ix ((wr (wr s 9 (ix (s 8 0)) l1) 10 (ix ((wr s 9 (ix (s 8 0)) l1) 8 0)) l2) 8 0)) l3) 8 0)) l4) 15 (ix ((wr (wr (wr (wr s 9 (ix (s 8 0)) l1) 10 (ix ((wr s 9 (ix (s 8 0)) l1) 8 0)) l2) 13 (ix ((wr (wr s 9 (ix (s 8 0)) l1) 10 (ix ((wr s 9 (ix (s 8 0)) l1) 8 0)) l2) 8 0)) l3) 14 (ix ((wr (wr (wr s 9 (ix (s 8 0)) l1) 10 (ix ((wr s 9 (ix (s 8 0)) l1) 8 0)) l2) 13 (ix ((wr (wr s 9 (ix (s 8 0)) l1) 10 (ix ((wr s 9 (ix (s 8 0)) l1) 8 0)) l2) 8 0)) l3) 8 0)) l4) 8 0)) l5) 11 (ix ((wr (wr (wr (wr (wr s 9 (ix (s 8 0)) l1) 10 (ix ((wr s 9 (ix (s 8 0)) l1) 8 0)) l2) 13 (ix ((wr (wr s 9 (ix (s 8 0)) l1) 10 (ix ((wr s 9 (ix (s 8 0)) l1) 8 0)) l2) 8 0)) l3) 14 (ix ((wr (wr (wr s 9 (ix (s 8 0)) l1) 10 (ix ((wr s 9 (ix (s 8 0)) l1) 8 0)) l2) 13 (ix ((wr (wr s 9 (ix (s 8 0)) l1) 10 (ix ((wr s 9 (ix (s 8 0)) l1) 8 0)) l2) 8 0)) l3) 8 0)) l4) 15 (ix ((wr (wr (wr (wr s 9 (ix (s 8 0)) l1) 10 (ix ((wr s 9 (ix (s 8 0)) l1) 8 0)) l2) 13 (ix ((wr (wr s 9 (ix (s 8 0)) l1) 10 (ix ((wr s 9 (ix (s 8 0)) l1) 8 0)) l2) 8 0)) l3) 14 (ix ((wr (wr (wr s 9 (ix (s 8 0)) l1) 10 (ix ((wr s 9 (ix (s 8 0)) l1) 8 0)) l2) 13 (ix ((wr (wr s 9 (ix (s 8 0)) l1) 10 (ix ((wr s 9 (ix (s 8 0)) l1) 8 0)) l2) 8 0)) l3) 8 0)) l4) 8 0)) l5) 8 0)) l6) 8 0) + 1)) 8 0) - 1, wr (wr (wr (wr (wr (wr (wr s 9 (ix (s 8 0)) l1) 10 (ix ((wr s 9 (ix (s 8 0)) l1) 8 0)) l2) 13 (ix ((wr (wr s 9 (ix (s 8 0)) l1) 10 (ix ((wr s 9 (ix (s 8 0)) l1) 8 0)) l2) 8 0)) l3) 14 (ix ((wr (wr (wr s 9 (ix (s 8 0)) l1) 10 (ix ((wr s 9 (ix (s 8 0)) l1) 8 0)) l2) 13 (ix ((wr (wr s 9 (ix (s 8 0)) l1) 10 (ix ((wr s 9 (ix (s 8 0)) l1) 8 0)) l2) 8 0)) l3) 8 0)) l4) 15 (ix ((wr (wr (wr (wr s 9 (ix (s 8 0)) l1) 10 (ix ((wr s 9 (ix (s 8 0)) l1) 8 0)) l2) 13 (ix ((wr (wr s 9 (ix (s 8 0)) l1) 10 (ix ((wr s 9 (ix (s 8 0)) l1) 8 0)) l2) 8 0)) l3) 14 (ix ((wr (wr (wr s 9 (ix (s 8 0)) l1) 10 (ix ((wr s 9 (ix (s 8 0)) l1) 8 0)) l2) 13 (ix ((wr (wr s 9 (ix (s 8 0)) l1) 10 (ix ((wr s 9 (ix (s 8 0)) l1) 8 0)) l2) 8 0)) l3) 8 0)) l4) 8 0)) l5) 11 (ix ((wr (wr (wr (wr (wr s 9 (ix (s 8 0)) l1) 10 (ix ((wr s 9 (ix (s 8 0)) l1) 8 0)) l2) 13 (ix ((wr (wr s 9 (ix (s 8 0)) l1) 10 (ix ((wr s 9 (ix (s 8 0)) l1) 8 0)) l2) 8 0)) l3) 14 (ix ((wr (wr (wr s 9 (ix (s 8 0)) l1) 10 (ix ((wr s 9 (ix (s 8 0)) l1) 8 0)) l2) 13 (ix ((wr (wr s 9 (ix (s 8 0)) l1) 10 (ix ((wr s 9 (ix (s 8 0)) l1) 8 0)) l2) 8 0)) l3) 8 0)) l4) 15 (ix ((wr (wr (wr (wr s 9 (ix (s 8 0)) l1) 10 (ix ((wr s 9 (ix (s 8 0)) l1) 8 0)) l2) 13 (ix ((wr (wr s 9 (ix (s 8 0)) l1) 10 (ix ((wr s 9 (ix (s 8 0)) l1) 8 0)) l2) 8 0)) l3) 14 (ix ((wr (wr (wr s 9 (ix (s 8 0)) l1) 10 (ix ((wr s 9 (ix (s 8 0)) l1) 8 0)) l2) 13 (ix ((wr (wr s 9 (ix (s 8 0)) l1) 10 (ix ((wr s 9 (ix (s 8 0)) l1) 8 0)) l2) 8 0)) l3) 8 0)) l4) 8 0)) l5) 8 0)) l6) 8 0 (((wr (wr (wr (wr (wr (wr s 9 (ix (s 8 0)) l1) 10 (ix ((wr s 9 (ix (s 8 0)) l1) 8 0)) l2) 13 (ix ((wr (wr s 9 (ix (s 8 0)) l1) 10 (ix ((wr s 9 (ix (s 8 0)) l1) 8 0)) l2) 8 0)) l3) 14 (ix ((wr (wr (wr s 9 (ix (s 8 0)) l1) 10 (ix ((wr s 9 (ix (s 8 0)) l1) 8 0)) l2) 13 (ix ((wr (wr s 9 (ix (s 8 0)) l1) 10 (ix ((wr s 9 (ix (s 8 0)) l1) 8 0)) l2) 8 0)) l3) 8 0)) l4) 15 (ix ((wr (wr (wr (wr s 9 (ix (s 8 0)) l1) 10 (ix ((wr s 9 (ix (s 8 0)) l1) 8 0)) l2) 13 (ix ((wr (wr s 9 (ix (s 8 0)) l1) 10 (ix ((wr s 9 (ix (s 8 0)) l1) 8 0)) l2) 8 0)) l3) 14 (ix ((wr (wr (wr s 9 (ix (s 8 0)) l1) 10 (ix ((wr s 9 (ix (s 8 0)) l1) 8 0)) l2) 13 (ix ((wr (wr s 9 (ix (s 8 0)) l1) 10 (ix ((wr s 9 (ix (s 8 0)) l1) 8 0)) l2) 8 0)) l3) 8 0)) l4) 8 0)) l5) 11 (ix ((wr (wr (wr (wr (wr s 9 (ix (s 8 0)) l1) 10 (ix ((wr s 9 (ix (s 8 0)) l1) 8 0)) l2) 13 (ix ((wr (wr s 9 (ix (s 8 0)) l1) 10 (ix ((wr s 9 (ix (s 8 0)) l1) 8 0)) l2) 8 0)) l3) 14 (ix ((wr (wr (wr s 9 (ix (s 8 0)) l1) 10 (ix ((wr s 9 (ix (s 8 0)) l1) 8 0)) l2) 13 (ix ((wr (wr s 9 (ix (s 8 0)) l1) 10 (ix ((wr s 9 (ix (s 8 0)) l1) 8 0)) l2) 8 0)) l3) 8 0)) l4) 15 (ix ((wr (wr (wr (wr s 9 (ix (s 8 0)) l1) 10 (ix ((wr s 9 (ix (s 8 0)) l1) 8 0)) l2) 13 (ix ((wr (wr s 9 (ix (s 8 0)) l1) 10 (ix ((wr s 9 (ix (s 8 0)) l1) 8 0)) l2) 8 0)) l3) 14 (ix ((wr (wr (wr s 9 (ix (s 8 0)) l1) 10 (ix ((wr s 9 (ix (s 8 0)) l1) 8 0)) l2) 13 (ix ((wr (wr s 9 (ix (s 8 0)) l1) 10 (ix ((wr s 9 (ix (s 8 0)) l1) 8 0)) l2) 8 0)) l3) 8 0)) l4) 8 0)) l5) 8 0)) l6) 8 0) + 1)) else none else none else none else none else none else none else none else none else none
def f_FU_user (l1 l2 l3 l4 l5 l6 : Int32) (s : Sg) : Ro :=
  bnd (f_Packs_has l1 s) (fun v1 s1 =>
  if v1 = 0 then
    some ((-1), s1)
  else
    bnd (f_Packs_has l2 s1) (fun v2 s2 =>
    if v2 = 0 then
      some ((-1), s2)
    else
      if (s2 8 0) < 40 then
        bnd (f_Users_add l1 l2 l3 l4 l5 l6 (wr s2 0 10 0)) (fun v3 s3 =>
        some (v3, s3))
      else
        some ((-1), s2)))
def f_Users_has (l1 : Int32) (s : Sg) : Ro :=
  bnd (f_FU_within l1 (s 8 0) s) (fun v1 s1 =>
  if isb v1 = true then some (v1, s1) else none)
def f_FU_asks (l1 l2 : Int32) (s : Sg) : Ro :=
  bnd (f_Users_has l1 s) (fun v1 s1 =>
  if v1 = 0 then
    some ((-1), s1)
  else
    if inb l1 40 = true then
    bnd (f_Feats_find (s1 10 (ix l1)) l2 s1) (fun v2 s2 =>
    if v2 = (-1) then
      some ((-2), s2)
    else
      if inb l1 40 = true then
      bnd (f_FU_bit (s2 12 (ix l1)) l2 s2) (fun v3 s3 =>
      if v3 = 0 then
        if inb l1 40 = true then
        if inb l1 40 = true then
        some (1, wr (wr s3 0 10 0) 12 (ix l1) (((wr s3 0 10 0) 12 (ix l1)) ||| (1 <<< (l2 &&& 31)))) else none else none
      else
        some ((-3), s3)) else none) else none)
def f_Feats_has (l1 : Int32) (s : Sg) : Ro :=
  bnd (f_FU_within l1 (s 3 0) s) (fun v1 s1 =>
  if isb v1 = true then some (v1, s1) else none)
def f_Turns_add (l1 l2 l3 l4 : Int32) (s : Sg) : Ro :=
  if inb (s 16 0) 60 = true then
  if inb ((wr s 17 (ix (s 16 0)) l1) 16 0) 60 = true then
  if inb ((wr (wr s 17 (ix (s 16 0)) l1) 18 (ix ((wr s 17 (ix (s 16 0)) l1) 16 0)) l2) 16 0) 60 = true then
  if inb ((wr (wr (wr s 17 (ix (s 16 0)) l1) 18 (ix ((wr s 17 (ix (s 16 0)) l1) 16 0)) l2) 19 (ix ((wr (wr s 17 (ix (s 16 0)) l1) 18 (ix ((wr s 17 (ix (s 16 0)) l1) 16 0)) l2) 16 0)) l3) 16 0) 60 = true then
  some (((wr (wr (wr (wr (wr s 17 (ix (s 16 0)) l1) 18 (ix ((wr s 17 (ix (s 16 0)) l1) 16 0)) l2) 19 (ix ((wr (wr s 17 (ix (s 16 0)) l1) 18 (ix ((wr s 17 (ix (s 16 0)) l1) 16 0)) l2) 16 0)) l3) 20 (ix ((wr (wr (wr s 17 (ix (s 16 0)) l1) 18 (ix ((wr s 17 (ix (s 16 0)) l1) 16 0)) l2) 19 (ix ((wr (wr s 17 (ix (s 16 0)) l1) 18 (ix ((wr s 17 (ix (s 16 0)) l1) 16 0)) l2) 16 0)) l3) 16 0)) l4) 16 0 (((wr (wr (wr (wr s 17 (ix (s 16 0)) l1) 18 (ix ((wr s 17 (ix (s 16 0)) l1) 16 0)) l2) 19 (ix ((wr (wr s 17 (ix (s 16 0)) l1) 18 (ix ((wr s 17 (ix (s 16 0)) l1) 16 0)) l2) 16 0)) l3) 20 (ix ((wr (wr (wr s 17 (ix (s 16 0)) l1) 18 (ix ((wr s 17 (ix (s 16 0)) l1) 16 0)) l2) 19 (ix ((wr (wr s 17 (ix (s 16 0)) l1) 18 (ix ((wr s 17 (ix (s 16 0)) l1) 16 0)) l2) 16 0)) l3) 16 0)) l4) 16 0) + 1)) 16 0) - 1, wr (wr (wr (wr (wr s 17 (ix (s 16 0)) l1) 18 (ix ((wr s 17 (ix (s 16 0)) l1) 16 0)) l2) 19 (ix ((wr (wr s 17 (ix (s 16 0)) l1) 18 (ix ((wr s 17 (ix (s 16 0)) l1) 16 0)) l2) 16 0)) l3) 20 (ix ((wr (wr (wr s 17 (ix (s 16 0)) l1) 18 (ix ((wr s 17 (ix (s 16 0)) l1) 16 0)) l2) 19 (ix ((wr (wr s 17 (ix (s 16 0)) l1) 18 (ix ((wr s 17 (ix (s 16 0)) l1) 16 0)) l2) 16 0)) l3) 16 0)) l4) 16 0 (((wr (wr (wr (wr s 17 (ix (s 16 0)) l1) 18 (ix ((wr s 17 (ix (s 16 0)) l1) 16 0)) l2) 19 (ix ((wr (wr s 17 (ix (s 16 0)) l1) 18 (ix ((wr s 17 (ix (s 16 0)) l1) 16 0)) l2) 16 0)) l3) 20 (ix ((wr (wr (wr s 17 (ix (s 16 0)) l1) 18 (ix ((wr s 17 (ix (s 16 0)) l1) 16 0)) l2) 19 (ix ((wr (wr s 17 (ix (s 16 0)) l1) 18 (ix ((wr s 17 (ix (s 16 0)) l1) 16 0)) l2) 16 0)) l3) 16 0)) l4) 16 0) + 1)) else none else none else none else none
def f_FU_turn_158  (l1 l2 l6 l7 : Int32) (s : Sg) : Ro :=
  bnd (f_Turns_add l1 l2 l6 l7 (wr s 0 10 0)) (fun v1 s1 =>
  some (v1, s1))
def f_FU_turn_133  (l1 l2 l4 l6 : Int32) (t0 : Int32) (s : Sg) : Ro :=
  bnd (f_Feats_find t0 l4 s) (fun v1 s1 =>
  if v1 = (-1) then
    some ((-1), s1)
  else
    if l2 = 0 then
      if v1 = l1 then
        some ((-1), s1)
      else
        f_FU_turn_158 l1 l2 l6 v1 s1
    else
      f_FU_turn_158 l1 l2 l6 v1 s1)
def f_FU_turn_100  (l1 l2 l4 l5 l6 : Int32) (s : Sg) : Ro :=
  if l2 = 1 then
    f_FU_turn_158 l1 l2 l6 (-1) s
  else
    if l6 = (-1) then
      f_FU_turn_133 l1 l2 l4 l6 l5 s
    else
      if inb l6 40 = true then
      f_FU_turn_133 l1 l2 l4 l6 (s 10 (ix l6)) s else none
def f_FU_turn_97  (l1 l2 l3 l4 l5 : Int32) (s : Sg) : Ro :=
  f_FU_turn_100 l1 l2 l4 l5 l3 s
def f_FU_turn (l1 l2 l3 l4 : Int32) (s : Sg) : Ro :=
  bnd (f_Feats_has l1 s) (fun v1 s1 =>
  if v1 = 0 then
    some ((-1), s1)
  else
    bnd (f_FU_within l2 4 s1) (fun v2 s2 =>
    if v2 = 0 then
      some ((-1), s2)
    else
      if (s2 16 0) < 60 then
        if inb l1 60 = true then
        if l2 = 0 then
          f_FU_turn_100 l1 l2 l4 (s2 4 (ix l1)) (-1) s2
        else
          bnd (f_Users_has l3 s2) (fun v3 s3 =>
          if v3 = 0 then
            some ((-1), s3)
          else
            if inb l3 40 = true then
            if (s3 9 (ix l3)) = (s2 4 (ix l1)) then
              if l2 = 1 then
                if inb l3 40 = true then
                if (s3 15 (ix l3)) = 0 then
                  some ((-1), s3)
                else
                  f_FU_turn_97 l1 l2 l3 l4 (s2 4 (ix l1)) s3 else none
              else
                f_FU_turn_97 l1 l2 l3 l4 (s2 4 (ix l1)) s3
            else
              some ((-1), s3) else none) else none
      else
        some ((-1), s2)))
def f_Snap_take (l1 : Int32) (s : Sg) : Ro :=
  if (¬ 0 < 0 ∧ ¬ 0 < 0 ∧ ¬ 40 < 0) ∧ ix 0 + ix 40 ≤ 40 ∧ ix 0 + ix 40 ≤ 40 then
  some (0, cpa (wr (wr (wr (wr (wr (wr (wr s 21 4 l1) 21 5 ((wr s 21 4 l1) 1 1)) 21 6 ((wr (wr s 21 4 l1) 21 5 ((wr s 21 4 l1) 1 1)) 1 2)) 21 7 ((wr (wr (wr s 21 4 l1) 21 5 ((wr s 21 4 l1) 1 1)) 21 6 ((wr (wr s 21 4 l1) 21 5 ((wr s 21 4 l1) 1 1)) 1 2)) 1 0)) 21 8 ((wr (wr (wr (wr s 21 4 l1) 21 5 ((wr s 21 4 l1) 1 1)) 21 6 ((wr (wr s 21 4 l1) 21 5 ((wr s 21 4 l1) 1 1)) 1 2)) 21 7 ((wr (wr (wr s 21 4 l1) 21 5 ((wr s 21 4 l1) 1 1)) 21 6 ((wr (wr s 21 4 l1) 21 5 ((wr s 21 4 l1) 1 1)) 1 2)) 1 0)) 3 0)) 21 9 ((wr (wr (wr (wr (wr s 21 4 l1) 21 5 ((wr s 21 4 l1) 1 1)) 21 6 ((wr (wr s 21 4 l1) 21 5 ((wr s 21 4 l1) 1 1)) 1 2)) 21 7 ((wr (wr (wr s 21 4 l1) 21 5 ((wr s 21 4 l1) 1 1)) 21 6 ((wr (wr s 21 4 l1) 21 5 ((wr s 21 4 l1) 1 1)) 1 2)) 1 0)) 21 8 ((wr (wr (wr (wr s 21 4 l1) 21 5 ((wr s 21 4 l1) 1 1)) 21 6 ((wr (wr s 21 4 l1) 21 5 ((wr s 21 4 l1) 1 1)) 1 2)) 21 7 ((wr (wr (wr s 21 4 l1) 21 5 ((wr s 21 4 l1) 1 1)) 21 6 ((wr (wr s 21 4 l1) 21 5 ((wr s 21 4 l1) 1 1)) 1 2)) 1 0)) 3 0)) 8 0)) 21 10 ((wr (wr (wr (wr (wr (wr s 21 4 l1) 21 5 ((wr s 21 4 l1) 1 1)) 21 6 ((wr (wr s 21 4 l1) 21 5 ((wr s 21 4 l1) 1 1)) 1 2)) 21 7 ((wr (wr (wr s 21 4 l1) 21 5 ((wr s 21 4 l1) 1 1)) 21 6 ((wr (wr s 21 4 l1) 21 5 ((wr s 21 4 l1) 1 1)) 1 2)) 1 0)) 21 8 ((wr (wr (wr (wr s 21 4 l1) 21 5 ((wr s 21 4 l1) 1 1)) 21 6 ((wr (wr s 21 4 l1) 21 5 ((wr s 21 4 l1) 1 1)) 1 2)) 21 7 ((wr (wr (wr s 21 4 l1) 21 5 ((wr s 21 4 l1) 1 1)) 21 6 ((wr (wr s 21 4 l1) 21 5 ((wr s 21 4 l1) 1 1)) 1 2)) 1 0)) 3 0)) 21 9 ((wr (wr (wr (wr (wr s 21 4 l1) 21 5 ((wr s 21 4 l1) 1 1)) 21 6 ((wr (wr s 21 4 l1) 21 5 ((wr s 21 4 l1) 1 1)) 1 2)) 21 7 ((wr (wr (wr s 21 4 l1) 21 5 ((wr s 21 4 l1) 1 1)) 21 6 ((wr (wr s 21 4 l1) 21 5 ((wr s 21 4 l1) 1 1)) 1 2)) 1 0)) 21 8 ((wr (wr (wr (wr s 21 4 l1) 21 5 ((wr s 21 4 l1) 1 1)) 21 6 ((wr (wr s 21 4 l1) 21 5 ((wr s 21 4 l1) 1 1)) 1 2)) 21 7 ((wr (wr (wr s 21 4 l1) 21 5 ((wr s 21 4 l1) 1 1)) 21 6 ((wr (wr s 21 4 l1) 21 5 ((wr s 21 4 l1) 1 1)) 1 2)) 1 0)) 3 0)) 8 0)) 16 0)) 12 22 (ix 0) (ix 0) (ix 40)) else none
def f_Clo_bring (c : Nat) (l1 l2 : Int32) (s : Sg) : Ro :=
  if inb l1 220 = true then
  if (s (c + 1) (ix l1)) = 0 then
    if 220 ≤ (s c 3) then
      some (0, s)
    else
      if inb l1 220 = true then
      if inb ((wr s (c + 1) (ix l1) l2) c 3) 220 = true then
      some (0, wr (wr (wr s (c + 1) (ix l1) l2) (c + 2) (ix ((wr s (c + 1) (ix l1) l2) c 3)) l1) c 3 (((wr (wr s (c + 1) (ix l1) l2) (c + 2) (ix ((wr s (c + 1) (ix l1) l2) c 3)) l1) c 3) + 1)) else none else none
  else
    some (0, s) else none
def f_Clo_bringThere (c : Nat) (l1 l2 l3 : Int32) (s : Sg) : Ro :=
  bnd (f_Clo_bring c ((2 * l1) + l2) l3 s) (fun v1 s1 =>
  some (0, s1))
def f_Snap_counts (l1 : Int32) (s : Sg) : Ro :=
  if inb l1 40 = true then
  bnd (f_FU_bit (s 11 (ix l1)) (s 21 4) s) (fun v1 s1 =>
  if isb v1 = true then some (v1, s1) else none) else none
def f_Clo_bringLive (c : Nat) (l1 l2 l3 : Int32) (s : Sg) : Ro :=
  bnd (f_Snap_counts l1 s) (fun v1 s1 =>
  if v1 = 0 then
    some (0, s1)
  else
    bnd (f_Clo_bring c ((20 + (2 * l1)) + l2) l3 s1) (fun v2 s2 =>
    some (0, s2)))
def f_Snap_isDefaultOfRoot (l1 : Int32) (s : Sg) : Ro :=
  if inb l1 60 = true then
  if (s 7 (ix l1)) = 0 then
    some (0, s)
  else
    if inb l1 60 = true then
    bnd (f_FU_bit (s 21 6) (s 4 (ix l1)) s) (fun v1 s1 =>
    if v1 = 0 then
      some (0, s1)
    else
      some (1, s1)) else none else none
def f_Clo_onStage (c : Nat) (l1 l2 : Int32) (s : Sg) : Ro :=
  if inb ((100 + (2 * l1)) + l2) 220 = true then
  some (s (c + 1) (ix ((100 + (2 * l1)) + l2)), s) else none
def f_Clo_isBy (l0 l1 : Int32) (s : Sg) : Ro :=
  if l0 = 0 then
    some (0, s)
  else
    if l1 < l0 then
      some (0, s)
    else
      some (1, s)
def f_Clo_bringOn (c : Nat) (l1 l2 l3 : Int32) (s : Sg) : Ro :=
  bnd (f_Clo_bring c ((100 + (2 * l1)) + l2) l3 s) (fun v1 s1 =>
  some (0, s1))
def f_Clo_followThere_170 (c : Nat) (rec67 : Int32 → Sg → Ro) (l2 l3 l4 : Int32) (s : Sg) : Ro :=
  bnd (f_Clo_bringOn c l4 l2 (l3 + 1) s) (fun v1 s1 =>
  rec67 (l4 + 1) s1)
def f_Clo_followThere_158 (c : Nat) (rec67 : Int32 → Sg → Ro) (l2 l3 l4 l5 : Int32) (t0 : Int32) (s : Sg) : Ro :=
  if l5 = 0 then
    if t0 = 0 then
      rec67 (l4 + 1) s
    else
      f_Clo_followThere_170 c rec67 l2 l3 l4 s
  else
    f_Clo_followThere_170 c rec67 l2 l3 l4 s
def f_Clo_followThere_157 (c : Nat) (rec67 : Int32 → Sg → Ro) (l2 l3 l4 l5 : Int32) (s : Sg) : Ro :=
  f_Clo_followThere_158 c rec67 l2 l3 l4 l5 0 s
def f_Clo_followThere_120 (c : Nat) (rec67 : Int32 → Sg → Ro) (l1 l2 l3 l4 : Int32) (t0 : Int32) (s : Sg) : Ro :=
  if inb l1 10 = true then
  if (s 2 (ix l1)) = 0 then
    bnd (f_Clo_onStage c l4 (1 - l2) s) (fun v1 s1 =>
    bnd (f_Clo_isBy v1 l3 s1) (fun v2 s2 =>
    if v2 = 0 then
      f_Clo_followThere_157 c rec67 l2 l3 l4 t0 s2
    else
      f_Clo_followThere_158 c rec67 l2 l3 l4 t0 1 s2))
  else
    f_Clo_followThere_157 c rec67 l2 l3 l4 t0 s else none
def f_Clo_followThere_119 (c : Nat) (rec67 : Int32 → Sg → Ro) (l1 l2 l3 l4 : Int32) (s : Sg) : Ro :=
  f_Clo_followThere_120 c rec67 l1 l2 l3 l4 0 s
def f_Clo_followThere_67 (c : Nat)  (l1 l2 l3 : Int32) : Int32 → Sg → Ro := itr1 (fun rec67 l4 s =>
  if (s 21 8) ≤ l4 then
    some (0, s)
  else
    if inb l4 60 = true then
    if (s 4 (ix l4)) = l1 then
      if l2 = 0 then
        bnd (f_Snap_isDefaultOfRoot l4 s) (fun v1 s1 =>
        if v1 = 0 then
          f_Clo_followThere_119 c rec67 l1 l2 l3 l4 s1
        else
          f_Clo_followThere_120 c rec67 l1 l2 l3 l4 1 s1)
      else
        f_Clo_followThere_119 c rec67 l1 l2 l3 l4 s
    else
      rec67 (l4 + 1) s else none) 4096
def f_Clo_followThere_3 (c : Nat)  (l1 l2 l3 : Int32) : Int32 → Sg → Ro := itr1 (fun rec3 l4 s =>
  if (s 21 9) ≤ l4 then
    f_Clo_followThere_67 c l1 l2 l3 0 s
  else
    if inb l4 40 = true then
    if (s 9 (ix l4)) = l1 then
      if inb l4 40 = true then
      if (s 15 (ix l4)) = 0 then
        bnd (f_Clo_bringLive c l4 l2 (l3 + 1) s) (fun v1 s1 =>
        rec3 (l4 + 1) s1)
      else
        rec3 (l4 + 1) s else none
    else
      rec3 (l4 + 1) s else none) 4096
def f_Clo_followThere (c : Nat) (l1 l2 l3 : Int32) (s : Sg) : Ro :=
  f_Clo_followThere_3 c l1 l2 l3 0 s
def f_Users_farSide (l1 l2 : Int32) (s : Sg) : Ro :=
  if inb l1 40 = true then
  if (s 14 (ix l1)) = 0 then
    some (l2, s)
  else
    some (1, s) else none
def f_Snap_isAskedBy (l1 l2 : Int32) (s : Sg) : Ro :=
  if inb l2 60 = true then
  if inb l1 40 = true then
  if (s 4 (ix l2)) = (s 10 (ix l1)) then
    if inb l1 40 = true then
    if inb l2 60 = true then
    bnd (f_FU_bit (s 22 (ix l1)) (s 5 (ix l2)) s) (fun v1 s1 =>
    if v1 = 0 then
      some (0, s1)
    else
      some (1, s1)) else none else none
  else
    some (0, s) else none else none
def f_Snap_isDefaultFor (l1 l2 : Int32) (s : Sg) : Ro :=
  if inb l2 60 = true then
  if inb l1 40 = true then
  if (s 4 (ix l2)) = (s 10 (ix l1)) then
    if inb l1 40 = true then
    if (s 13 (ix l1)) = 0 then
      some (0, s)
    else
      if inb l2 60 = true then
      if (s 7 (ix l2)) = 0 then
        some (0, s)
      else
        some (1, s) else none else none
  else
    some (0, s) else none else none
def f_Clo_followLive_96 (c : Nat)  (l1 l2 l3 l4 : Int32) : Int32 → Sg → Ro := itr1 (fun rec96 l5 s =>
  if (s 21 10) ≤ l5 then
    some (0, s)
  else
    if inb l5 60 = true then
    if (s 18 (ix l5)) = 3 then
      if inb l5 60 = true then
      if (s 19 (ix l5)) = l1 then
        if inb l5 60 = true then
        bnd (f_Clo_onStage c (s 17 (ix l5)) l2 s) (fun v1 s1 =>
        bnd (f_Clo_isBy v1 l3 s1) (fun v2 s2 =>
        if v2 = 0 then
          rec96 (l5 + 1) s2
        else
          if inb l5 60 = true then
          bnd (f_Clo_bringOn c (s2 20 (ix l5)) l4 (l3 + 1) s2) (fun v3 s3 =>
          rec96 (l5 + 1) s3) else none)) else none
      else
        rec96 (l5 + 1) s else none
    else
      rec96 (l5 + 1) s else none) 4096
def f_Clo_followLive_76 (c : Nat) (rec38 : Int32 → Sg → Ro) (l3 l4 l5 : Int32) (s : Sg) : Ro :=
  bnd (f_Clo_bringOn c l5 l4 (l3 + 1) s) (fun v1 s1 =>
  rec38 (l5 + 1) s1)
def f_Clo_followLive_38 (c : Nat)  (l1 l2 l3 l4 : Int32) : Int32 → Sg → Ro := itr1 (fun rec38 l5 s =>
  if (s 21 8) ≤ l5 then
    f_Clo_followLive_96 c l1 l2 l3 l4 0 s
  else
    bnd (f_Snap_isAskedBy l1 l5 s) (fun v1 s1 =>
    if v1 = 0 then
      bnd (f_Snap_isDefaultFor l1 l5 s1) (fun v2 s2 =>
      if v2 = 0 then
        rec38 (l5 + 1) s2
      else
        f_Clo_followLive_76 c rec38 l3 l4 l5 s2)
    else
      f_Clo_followLive_76 c rec38 l3 l4 l5 s1)) 4096
def f_Clo_followLive (c : Nat) (l1 l2 l3 : Int32) (s : Sg) : Ro :=
  bnd (f_Users_farSide l1 l2 s) (fun v1 s1 =>
  if inb l1 40 = true then
  bnd (f_Clo_bringThere c (s1 10 (ix l1)) v1 (l3 + 1) s1) (fun v2 s2 =>
  f_Clo_followLive_38 c l1 l2 l3 v1 0 s2) else none)
def f_Clo_thereStage (c : Nat) (l1 l2 : Int32) (s : Sg) : Ro :=
  if inb ((2 * l1) + l2) 220 = true then
  some (s (c + 1) (ix ((2 * l1) + l2)), s) else none
def f_Clo_liveStage (c : Nat) (l1 l2 : Int32) (s : Sg) : Ro :=
  if inb ((20 + (2 * l1)) + l2) 220 = true then
  some (s (c + 1) (ix ((20 + (2 * l1)) + l2)), s) else none
def f_Clo_followTurn_119 (c : Nat)  (l2 l3 l5 l6 : Int32) (s : Sg) : Ro :=
  bnd (f_Users_farSide l6 l2 s) (fun v1 s1 =>
  bnd (f_Clo_bringOn c l5 v1 (l3 + 1) s1) (fun v2 s2 =>
  some (0, s2)))
def f_Clo_followTurn_93 (c : Nat)  (l2 l3 l4 l5 l6 : Int32) (s : Sg) : Ro :=
  if l4 = 2 then
    f_Clo_followTurn_119 c l2 l3 l5 l6 s
  else
    if l4 = 3 then
      bnd (f_Clo_liveStage c l6 l2 s) (fun v1 s1 =>
      bnd (f_Clo_isBy v1 l3 s1) (fun v2 s2 =>
      if v2 = 0 then
        some (0, s2)
      else
        f_Clo_followTurn_119 c l2 l3 l5 l6 s2))
    else
      some (0, s)
def f_Clo_followTurn_83 (c : Nat)  (l2 l3 l4 l5 l6 : Int32) (s : Sg) : Ro :=
  bnd (f_Clo_bringLive c l6 l2 (l3 + 1) s) (fun v1 s1 =>
  f_Clo_followTurn_93 c l2 l3 l4 l5 l6 s1)
def f_Clo_followTurn (c : Nat) (l1 l2 l3 : Int32) (s : Sg) : Ro :=
  if inb l1 60 = true then
  if inb l1 60 = true then
  if (s 18 (ix l1)) = 0 then
    bnd (f_Clo_bringOn c (s 20 (ix l1)) l2 (l3 + 1) s) (fun v1 s1 =>
    some (0, s1))
  else
    if inb l1 60 = true then
    bnd (f_Snap_counts (s 19 (ix l1)) s) (fun v2 s2 =>
    if v2 = 0 then
      some (0, s2)
    else
      if (s 18 (ix l1)) = 1 then
        f_Clo_followTurn_83 c l2 l3 (s 18 (ix l1)) (s 20 (ix l1)) (s 19 (ix l1)) s2
      else
        if (s 18 (ix l1)) = 2 then
          f_Clo_followTurn_83 c l2 l3 (s 18 (ix l1)) (s 20 (ix l1)) (s 19 (ix l1)) s2
        else
          f_Clo_followTurn_93 c l2 l3 (s 18 (ix l1)) (s 20 (ix l1)) (s 19 (ix l1)) s2) else none else none else none
def f_Clo_followOn_60 (c : Nat)  (l1 l2 l3 : Int32) : Int32 → Sg → Ro := itr1 (fun rec60 l5 s =>
  if (s 21 10) ≤ l5 then
    some (0, s)
  else
    if inb l5 60 = true then
    if (s 17 (ix l5)) = l1 then
      bnd (f_Clo_followTurn c l5 l2 l3 s) (fun v1 s1 =>
      rec60 (l5 + 1) s1)
    else
      rec60 (l5 + 1) s else none) 4096
def f_Clo_followOn (c : Nat) (l1 l2 l3 : Int32) (s : Sg) : Ro :=
  if inb l1 60 = true then
  if inb (s 4 (ix l1)) 10 = true then
  if (s 2 (ix (s 4 (ix l1)))) = 0 then
    bnd (f_Clo_thereStage c (s 4 (ix l1)) (1 - l2) s) (fun v1 s1 =>
    bnd (f_Clo_isBy v1 l3 s1) (fun v2 s2 =>
    if v2 = 0 then
      f_Clo_followOn_60 c l1 l2 l3 0 s2
    else
      bnd (f_Clo_bringOn c l1 (1 - l2) (l3 + 1) s2) (fun v3 s3 =>
      f_Clo_followOn_60 c l1 l2 l3 0 s3)))
  else
    f_Clo_followOn_60 c l1 l2 l3 0 s else none else none
def f_Clo_follow (c : Nat) (l1 : Int32) (s : Sg) : Ro :=
  if inb l1 220 = true then
  if 20 ≤ l1 then
    if 100 ≤ l1 then
      bnd (f_Clo_followOn c ((l1 - 100) / 2) (l1 - l1 / 2 * 2) (s (c + 1) (ix l1)) s) (fun v1 s1 =>
      some (0, s1))
    else
      bnd (f_Clo_followLive c ((l1 - 20) / 2) (l1 - l1 / 2 * 2) (s (c + 1) (ix l1)) s) (fun v2 s2 =>
      some (0, s2))
  else
    bnd (f_Clo_followThere c (l1 / 2) (l1 - l1 / 2 * 2) (s (c + 1) (ix l1)) s) (fun v3 s3 =>
    some (0, s3)) else none
def f_Clo_close_69 (c : Nat)  : Int32 → Sg → Ro := itr1 (fun rec69 l1 s =>
  if (s c 3) ≤ l1 then
    some (0, s)
  else
    if 220 ≤ l1 then
      some (0, s)
    else
      if inb l1 220 = true then
      bnd (f_Clo_follow c (s (c + 2) (ix l1)) s) (fun v1 s1 =>
      rec69 (l1 + 1) s1) else none) 4096
def f_Clo_close_29 (c : Nat)  : Int32 → Sg → Ro := itr1 (fun rec29 l1 s =>
  if (s 21 7) ≤ l1 then
    f_Clo_close_69 c 0 s
  else
    bnd (f_FU_bit (s 21 5) l1 s) (fun v1 s1 =>
    if v1 = 0 then
      rec29 (l1 + 1) s1
    else
      bnd (f_Clo_bringThere c l1 0 1 s1) (fun v2 s2 =>
      rec29 (l1 + 1) s2))) 4096
def f_Clo_close_2 (c : Nat)  : Int32 → Sg → Ro := itr1 (fun rec2 l1 s =>
  if 220 ≤ l1 then
    f_Clo_close_29 c 0 (wr s c 3 0)
  else
    if inb l1 220 = true then
    rec2 (l1 + 1) (wr s (c + 1) (ix l1) 0) else none) 4096
def f_Clo_close (c : Nat) (s : Sg) : Ro :=
  f_Clo_close_2 c 0 s
def f_Clo_greatestStage (c : Nat) (s : Sg) : Ro :=
  if (s c 3) = 0 then
    some (0, s)
  else
    if inb ((s c 3) - 1) 220 = true then
    if inb (s (c + 2) (ix ((s c 3) - 1))) 220 = true then
    some (s (c + 1) (ix (s (c + 2) (ix ((s c 3) - 1)))), s) else none else none
def f_FU_run (l1 : Int32) (s : Sg) : Ro :=
  bnd (f_FU_within l1 8 s) (fun v1 s1 =>
  if v1 = 0 then
    some ((-1), s1)
  else
    bnd (f_Snap_take l1 s1) (fun v2 s2 =>
    bnd (f_Clo_close 23 s2) (fun v3 s3 =>
    bnd (f_Clo_greatestStage 23 (wr s3 0 10 1)) (fun v4 s4 =>
    some (v4, s4)))))
def f_FU_there (l1 l2 : Int32) (s : Sg) : Ro :=
  bnd (f_Packs_has l1 s) (fun v1 s1 =>
  if v1 = 0 then
    some (0, s1)
  else
    bnd (f_FU_within l2 2 s1) (fun v2 s2 =>
    if v2 = 0 then
      some (0, s2)
    else
      bnd (f_Clo_thereStage 23 l1 l2 s2) (fun v3 s3 =>
      some (v3, s3))))
def f_FU_live (l1 l2 : Int32) (s : Sg) : Ro :=
  bnd (f_Users_has l1 s) (fun v1 s1 =>
  if v1 = 0 then
    some (0, s1)
  else
    bnd (f_FU_within l2 2 s1) (fun v2 s2 =>
    if v2 = 0 then
      some (0, s2)
    else
      bnd (f_Clo_liveStage 23 l1 l2 s2) (fun v3 s3 =>
      some (v3, s3))))
def f_FU_on (l1 l2 : Int32) (s : Sg) : Ro :=
  bnd (f_Feats_has l1 s) (fun v1 s1 =>
  if v1 = 0 then
    some (0, s1)
  else
    bnd (f_FU_within l2 2 s1) (fun v2 s2 =>
    if v2 = 0 then
      some (0, s2)
    else
      bnd (f_Clo_onStage 23 l1 l2 s2) (fun v3 s3 =>
      some (v3, s3))))
def f_Reas_isByRoot (l1 l2 l3 : Int32) (s : Sg) : Ro :=
  if inb l2 60 = true then
  if (s 4 (ix l2)) = l1 then
    if l3 = 0 then
      bnd (f_Snap_isDefaultOfRoot l2 s) (fun v1 s1 =>
      if v1 = 0 then
        some (0, s1)
      else
        bnd (f_Clo_thereStage 23 l1 0 s1) (fun v2 s2 =>
        if v2 = 0 then
          some (0, s2)
        else
          some (1, s2)))
    else
      some (0, s)
  else
    some (0, s) else none
def f_Reas_isByUser (l1 l2 l3 l4 : Int32) (s : Sg) : Ro :=
  if (s 21 9) ≤ (l2 / 2) then
    some (0, s)
  else
    bnd (f_Clo_liveStage 23 (l2 / 2) (l2 - l2 / 2 * 2) s) (fun v1 s1 =>
    if v1 = 0 then
      some (0, s1)
    else
      bnd (f_Users_farSide (l2 / 2) (l2 - l2 / 2 * 2) s1) (fun v2 s2 =>
      if v2 = l4 then
        if l1 = 1 then
          bnd (f_Snap_isAskedBy (l2 / 2) l3 s2) (fun v3 s3 =>
          if isb v3 = true then some (v3, s3) else none)
        else
          bnd (f_Snap_isDefaultFor (l2 / 2) l3 s2) (fun v4 s4 =>
          if isb v4 = true then some (v4, s4) else none)
      else
        some (0, s2)))
def f_Reas_isByTurn (l1 l2 l3 l4 : Int32) (s : Sg) : Ro :=
  if (s 21 10) ≤ (l2 / 2) then
    some (0, s)
  else
    if inb (l2 / 2) 60 = true then
    if (s 20 (ix (l2 / 2))) = l3 then
      if inb (l2 / 2) 60 = true then
      bnd (f_Clo_onStage 23 (s 17 (ix (l2 / 2))) (l2 - l2 / 2 * 2) s) (fun v1 s1 =>
      if v1 = 0 then
        some (0, s1)
      else
        if inb (l2 / 2) 60 = true then
        if l1 = 3 then
          if (s1 18 (ix (l2 / 2))) = 0 then
            if (l2 - l2 / 2 * 2) = l4 then
              some (1, s1)
            else
              some (0, s1)
          else
            some (0, s1)
        else
          if inb (l2 / 2) 60 = true then
          if (s1 19 (ix (l2 / 2))) = (-1) then
            some (0, s1)
          else
            bnd (f_Snap_counts (s1 19 (ix (l2 / 2))) s1) (fun v2 s2 =>
            if v2 = 0 then
              some (0, s2)
            else
              bnd (f_Users_farSide (s1 19 (ix (l2 / 2))) (l2 - l2 / 2 * 2) s2) (fun v3 s3 =>
              if v3 = l4 then
                if l1 = 4 then
                  if (s1 18 (ix (l2 / 2))) = 2 then
                    some (1, s3)
                  else
                    some (0, s3)
                else
                  if (s1 18 (ix (l2 / 2))) = 3 then
                    bnd (f_Clo_liveStage 23 (s1 19 (ix (l2 / 2))) (l2 - l2 / 2 * 2) s3) (fun v4 s4 =>
                    if v4 = 0 then
                      some (0, s4)
                    else
                      some (1, s4))
                  else
                    some (0, s3)
              else
                some (0, s3))) else none else none) else none
    else
      some (0, s) else none
def f_Reas_isByOtherSide (l1 l2 l3 : Int32) (s : Sg) : Ro :=
  if inb l2 60 = true then
  if l1 = (((2 * l2) + 1) - l3) then
    if inb (s 4 (ix l2)) 10 = true then
    if (s 2 (ix (s 4 (ix l2)))) = 0 then
      bnd (f_Clo_onStage 23 l2 (1 - l3) s) (fun v1 s1 =>
      if v1 = 0 then
        some (0, s1)
      else
        bnd (f_Clo_thereStage 23 (s 4 (ix l2)) l3 s1) (fun v2 s2 =>
        if v2 = 0 then
          some (0, s2)
        else
          some (1, s2)))
    else
      some (0, s) else none
  else
    some (0, s) else none
def f_Reas_holds (l1 l2 l3 : Int32) (s : Sg) : Ro :=
  if (l1 / 128) = 0 then
    bnd (f_Reas_isByRoot (l1 - l1 / 128 * 128) l2 l3 s) (fun v1 s1 =>
    if isb v1 = true then some (v1, s1) else none)
  else
  if (l1 / 128) = 1 then
    bnd (f_Reas_isByUser (l1 / 128) (l1 - l1 / 128 * 128) l2 l3 s) (fun v2 s2 =>
    if isb v2 = true then some (v2, s2) else none)
  else
  if (l1 / 128) = 2 then
    bnd (f_Reas_isByUser (l1 / 128) (l1 - l1 / 128 * 128) l2 l3 s) (fun v3 s3 =>
    if isb v3 = true then some (v3, s3) else none)
  else
  if (l1 / 128) = 3 then
    bnd (f_Reas_isByTurn (l1 / 128) (l1 - l1 / 128 * 128) l2 l3 s) (fun v4 s4 =>
    if isb v4 = true then some (v4, s4) else none)
  else
  if (l1 / 128) = 4 then
    bnd (f_Reas_isByTurn (l1 / 128) (l1 - l1 / 128 * 128) l2 l3 s) (fun v5 s5 =>
    if isb v5 = true then some (v5, s5) else none)
  else
  if (l1 / 128) = 5 then
    bnd (f_Reas_isByTurn (l1 / 128) (l1 - l1 / 128 * 128) l2 l3 s) (fun v6 s6 =>
    if isb v6 = true then some (v6, s6) else none)
  else
  if (l1 / 128) = 6 then
    bnd (f_Reas_isByOtherSide (l1 - l1 / 128 * 128) l2 l3 s) (fun v7 s7 =>
    if isb v7 = true then some (v7, s7) else none)
  else
  some (0, s)
def f_Reas_countOf_5  (l1 l2 : Int32) : Int32 → Int32 → Sg → Ro := itr2 (fun rec5 l3 l4 s =>
  if 896 ≤ l4 then
    some (l3, s)
  else
    bnd (f_Reas_holds l4 l1 l2 s) (fun v1 s1 =>
    if v1 = 0 then
      rec5 l3 (l4 + 1) s1
    else
      rec5 (l3 + 1) (l4 + 1) s1)) 4096
def f_Reas_countOf (l1 l2 : Int32) (s : Sg) : Ro :=
  f_Reas_countOf_5 l1 l2 0 0 s
def f_FU_reasons (l1 l2 : Int32) (s : Sg) : Ro :=
  bnd (f_FU_on l1 l2 s) (fun v1 s1 =>
  if v1 = 0 then
    some (0, s1)
  else
    bnd (f_Reas_countOf l1 l2 s1) (fun v2 s2 =>
    some (v2, s2)))
def f_Reas_find_6  (l1 l2 : Int32) : Int32 → Int32 → Sg → Ro := itr2 (fun rec6 l4 l5 s =>
  if 896 ≤ l5 then
    some ((-1), s)
  else
    if l4 < 0 then
      some ((-1), s)
    else
      bnd (f_Reas_holds l5 l1 l2 s) (fun v1 s1 =>
      if v1 = 0 then
        rec6 l4 (l5 + 1) s1
      else
        if l4 = 0 then
          some (l5, s1)
        else
          rec6 (l4 + (-1)) (l5 + 1) s1)) 4096
def f_Reas_find (l1 l2 l3 : Int32) (s : Sg) : Ro :=
  f_Reas_find_6 l1 l2 l3 0 s
def f_FU_reason (l1 l2 l3 l4 : Int32) (s : Sg) : Ro :=
  bnd (f_FU_within l4 2 s) (fun v1 s1 =>
  if v1 = 0 then
    some ((-1), s1)
  else
    bnd (f_FU_on l1 l2 s1) (fun v2 s2 =>
    if v2 = 0 then
      some ((-1), s2)
    else
      bnd (f_Reas_find l1 l2 l3 s2) (fun v3 s3 =>
      if v3 = (-1) then
        some ((-1), s3)
      else
        if l4 = 0 then
          some (v3 / 128, s3)
        else
          some (v3 - v3 / 128 * 128, s3))))
def f_Feats_exclude (l1 l2 : Int32) (s : Sg) : Ro :=
  if inb l1 60 = true then
  if (s 6 (ix l1)) = 0 then
    some (0, s)
  else
    if inb l1 60 = true then
    if inb l2 60 = true then
    if (s 6 (ix l1)) = (s 6 (ix l2)) then
      if inb l1 60 = true then
      if inb l2 60 = true then
      if (s 4 (ix l1)) = (s 4 (ix l2)) then
        some (1, s)
      else
        some (0, s) else none else none
    else
      some (0, s) else none else none else none
def f_FU_clash_69 (rec19 : Int32 → Int32 → Sg → Ro) (rec37 : Int32 → Int32 → Sg → Ro) (l2 l4 l5 : Int32) : Int32 → Int32 → Sg → Ro := itr2 (fun rec69 l3 l6 s =>
  if 2 ≤ l6 then
    rec37 l3 (l5 + 1) s
  else
    bnd (f_Clo_onStage 23 l4 l6 s) (fun v1 s1 =>
    if v1 = 0 then
      rec69 l3 (l6 + 1) s1
    else
      bnd (f_Clo_onStage 23 l5 l6 s1) (fun v2 s2 =>
      if v2 = 0 then
        rec69 l3 (l6 + 1) s2
      else
        if l3 = 0 then
          if l2 = 0 then
            some (l4, s2)
          else
            if l2 = 1 then
              some (l5, s2)
            else
              some (l6, s2)
        else
          rec69 (l3 + (-1)) (l6 + 1) s2))) 4096
def f_FU_clash_37 (rec19 : Int32 → Int32 → Sg → Ro) (l2 l4 : Int32) : Int32 → Int32 → Sg → Ro := itr2 (fun rec37 l3 l5 s =>
  if (s 3 0) ≤ l5 then
    rec19 l3 (l4 + 1) s
  else
    bnd (f_Feats_exclude l4 l5 s) (fun v1 s1 =>
    if v1 = 0 then
      rec37 l3 (l5 + 1) s1
    else
      f_FU_clash_69 rec19 rec37 l2 l4 l5 l3 0 s1)) 4096
def f_FU_clash_19  (l2 : Int32) : Int32 → Int32 → Sg → Ro := itr2 (fun rec19 l3 l4 s =>
  if (s 3 0) ≤ l4 then
    some ((-1), s)
  else
    f_FU_clash_37 rec19 l2 l4 l3 (l4 + 1) s) 4096
def f_FU_clash (l1 l2 : Int32) (s : Sg) : Ro :=
  if l1 < 0 then
    some ((-1), s)
  else
    bnd (f_FU_within l2 3 s) (fun v1 s1 =>
    if v1 = 0 then
      some ((-1), s1)
    else
      f_FU_clash_19 l2 l1 0 s1)
def f_FU_noteLeavers_20 (rec7 : Int32 → Sg → Ro) (l1 : Int32) : Int32 → Sg → Ro := itr1 (fun rec20 l2 s =>
  if 2 ≤ l2 then
    rec7 (l1 + 1) s
  else
    bnd (f_Clo_onStage 23 l1 l2 s) (fun v1 s1 =>
    if v1 = 0 then
      rec20 (l2 + 1) s1
    else
      bnd (f_Clo_onStage 26 l1 l2 s1) (fun v2 s2 =>
      if v2 = 0 then
        if inb (s2 0 9) 120 = true then
        rec20 (l2 + 1) (wr (wr s2 30 (ix (s2 0 9)) ((2 * l1) + l2)) 0 9 (((wr s2 30 (ix (s2 0 9)) ((2 * l1) + l2)) 0 9) + 1)) else none
      else
        rec20 (l2 + 1) s2))) 4096
def f_FU_noteLeavers_7  : Int32 → Sg → Ro := itr1 (fun rec7 l1 s =>
  if (s 3 0) ≤ l1 then
    some (0, s)
  else
    f_FU_noteLeavers_20 rec7 l1 0 s) 4096
def f_FU_noteLeavers (s : Sg) : Ro :=
  f_FU_noteLeavers_7 0 (wr s 0 9 0)
def f_FU_without (l1 l2 : Int32) (s : Sg) : Ro :=
  if (s 0 10) = 0 then
    some ((-1), s)
  else
    bnd (f_Users_has l1 s) (fun v1 s1 =>
    if v1 = 0 then
      some ((-1), s1)
    else
      bnd (f_FU_within l2 32 s1) (fun v2 s2 =>
      if v2 = 0 then
        some ((-1), s2)
      else
        if inb l1 40 = true then
        bnd (f_FU_bit (s2 22 (ix l1)) l2 s2) (fun v3 s3 =>
        if v3 = 0 then
          some ((-1), s3)
        else
          if inb l1 40 = true then
          if inb l1 40 = true then
          bnd (f_Clo_close 26 (wr s3 22 (ix l1) ((s3 22 (ix l1)) &&& ((1 <<< (l2 &&& 31)) ^^^ (-1))))) (fun v4 s4 =>
          if inb l1 40 = true then
          bnd (f_FU_noteLeavers (wr s4 22 (ix l1) (s3 22 (ix l1)))) (fun v5 s5 =>
          some (s5 0 9, s5)) else none) else none else none) else none))
def f_FU_left (l1 : Int32) (s : Sg) : Ro :=
  bnd (f_FU_within l1 (s 0 9) s) (fun v1 s1 =>
  if v1 = 0 then
    some ((-1), s1)
  else
    if inb l1 120 = true then
    some (s1 30 (ix l1), s1) else none)
def f_Mod_isPack (l1 : Int32) (s : Sg) : Ro :=
  if l1 < 0 then
    some (0, s)
  else
    if (s 31 1) ≤ l1 then
      some (0, s)
    else
      some (1, s)
def f_Mod_isUser (l1 : Int32) (s : Sg) : Ro :=
  if l1 < 0 then
    some (0, s)
  else
    if (s 31 3) ≤ l1 then
      some (0, s)
    else
      some (1, s)
def f_Mod_isFeature (l1 : Int32) (s : Sg) : Ro :=
  if l1 < 0 then
    some (0, s)
  else
    if (s 31 2) ≤ l1 then
      some (0, s)
    else
      some (1, s)
def f_Mod_pack (l1 : Int32) (s : Sg) : Ro :=
  if ((wr s 31 0 0) 31 1) = 10 then
    some ((-1), wr s 31 0 0)
  else
    if inb ((wr s 31 0 0) 31 1) 10 = true then
    if isb l1 = true then
    some (((wr (wr (wr (wr s 31 0 0) 32 (ix ((wr s 31 0 0) 31 1)) l1) 31 1 (((wr (wr s 31 0 0) 32 (ix ((wr s 31 0 0) 31 1)) l1) 31 1) + 1)) 31 33 1) 31 1) - 1, wr (wr (wr (wr s 31 0 0) 32 (ix ((wr s 31 0 0) 31 1)) l1) 31 1 (((wr (wr s 31 0 0) 32 (ix ((wr s 31 0 0) 31 1)) l1) 31 1) + 1)) 31 33 1) else none else none
def f_Mod_named_5  (l1 l2 : Int32) : Int32 → Int32 → Sg → Ro := itr2 (fun rec5 l3 l4 s =>
  if (s 31 2) ≤ l4 then
    some (l3, s)
  else
    if inb l4 60 = true then
    if (s 35 (ix l4)) = l1 then
      if inb l4 60 = true then
      if (s 36 (ix l4)) = l2 then
        rec5 l4 (l4 + 1) s
      else
        rec5 l3 (l4 + 1) s else none
    else
      rec5 l3 (l4 + 1) s else none) 4096
def f_Mod_named (l1 l2 : Int32) (s : Sg) : Ro :=
  f_Mod_named_5 l1 l2 (-1) 0 s
def f_Mod_many_4  (l1 : Int32) : Int32 → Int32 → Sg → Ro := itr2 (fun rec4 l2 l3 s =>
  if (s 31 2) ≤ l3 then
    some (l2, s)
  else
    if inb l3 60 = true then
    if (s 35 (ix l3)) = l1 then
      rec4 (l2 + 1) (l3 + 1) s
    else
      rec4 (l2 + 0) (l3 + 1) s else none) 4096
def f_Mod_many (l1 : Int32) (s : Sg) : Ro :=
  f_Mod_many_4 l1 0 0 s
def f_Mod_feature (l1 l2 l3 l4 : Int32) (s : Sg) : Ro :=
  bnd (f_Mod_isPack l1 (wr s 31 0 0)) (fun v1 s1 =>
  if v1 = 0 then
    some ((-1), s1)
  else
    if l2 < 0 then
      some ((-1), s1)
    else
      if 32 ≤ l2 then
        some ((-1), s1)
      else
        if l4 < 0 then
          some ((-1), s1)
        else
          if 8 ≤ l4 then
            some ((-1), s1)
          else
            if (s1 31 2) = 60 then
              some ((-1), s1)
            else
              bnd (f_Mod_many l1 s1) (fun v2 s2 =>
              if v2 = 10 then
                some ((-1), s2)
              else
                bnd (f_Mod_named l1 l2 s2) (fun v3 s3 =>
                if v3 = (-1) then
                  if inb (s3 31 2) 60 = true then
                  if inb ((wr s3 35 (ix (s3 31 2)) l1) 31 2) 60 = true then
                  if inb ((wr (wr s3 35 (ix (s3 31 2)) l1) 36 (ix ((wr s3 35 (ix (s3 31 2)) l1) 31 2)) l2) 31 2) 60 = true then
                  if inb ((wr (wr (wr s3 35 (ix (s3 31 2)) l1) 36 (ix ((wr s3 35 (ix (s3 31 2)) l1) 31 2)) l2) 37 (ix ((wr (wr s3 35 (ix (s3 31 2)) l1) 36 (ix ((wr s3 35 (ix (s3 31 2)) l1) 31 2)) l2) 31 2)) l4) 31 2) 60 = true then
                  if isb l3 = true then
                  some (((wr (wr (wr (wr (wr (wr s3 35 (ix (s3 31 2)) l1) 36 (ix ((wr s3 35 (ix (s3 31 2)) l1) 31 2)) l2) 37 (ix ((wr (wr s3 35 (ix (s3 31 2)) l1) 36 (ix ((wr s3 35 (ix (s3 31 2)) l1) 31 2)) l2) 31 2)) l4) 38 (ix ((wr (wr (wr s3 35 (ix (s3 31 2)) l1) 36 (ix ((wr s3 35 (ix (s3 31 2)) l1) 31 2)) l2) 37 (ix ((wr (wr s3 35 (ix (s3 31 2)) l1) 36 (ix ((wr s3 35 (ix (s3 31 2)) l1) 31 2)) l2) 31 2)) l4) 31 2)) l3) 31 2 (((wr (wr (wr (wr s3 35 (ix (s3 31 2)) l1) 36 (ix ((wr s3 35 (ix (s3 31 2)) l1) 31 2)) l2) 37 (ix ((wr (wr s3 35 (ix (s3 31 2)) l1) 36 (ix ((wr s3 35 (ix (s3 31 2)) l1) 31 2)) l2) 31 2)) l4) 38 (ix ((wr (wr (wr s3 35 (ix (s3 31 2)) l1) 36 (ix ((wr s3 35 (ix (s3 31 2)) l1) 31 2)) l2) 37 (ix ((wr (wr s3 35 (ix (s3 31 2)) l1) 36 (ix ((wr s3 35 (ix (s3 31 2)) l1) 31 2)) l2) 31 2)) l4) 31 2)) l3) 31 2) + 1)) 31 33 1) 31 2) - 1, wr (wr (wr (wr (wr (wr s3 35 (ix (s3 31 2)) l1) 36 (ix ((wr s3 35 (ix (s3 31 2)) l1) 31 2)) l2) 37 (ix ((wr (wr s3 35 (ix (s3 31 2)) l1) 36 (ix ((wr s3 35 (ix (s3 31 2)) l1) 31 2)) l2) 31 2)) l4) 38 (ix ((wr (wr (wr s3 35 (ix (s3 31 2)) l1) 36 (ix ((wr s3 35 (ix (s3 31 2)) l1) 31 2)) l2) 37 (ix ((wr (wr s3 35 (ix (s3 31 2)) l1) 36 (ix ((wr s3 35 (ix (s3 31 2)) l1) 31 2)) l2) 31 2)) l4) 31 2)) l3) 31 2 (((wr (wr (wr (wr s3 35 (ix (s3 31 2)) l1) 36 (ix ((wr s3 35 (ix (s3 31 2)) l1) 31 2)) l2) 37 (ix ((wr (wr s3 35 (ix (s3 31 2)) l1) 36 (ix ((wr s3 35 (ix (s3 31 2)) l1) 31 2)) l2) 31 2)) l4) 38 (ix ((wr (wr (wr s3 35 (ix (s3 31 2)) l1) 36 (ix ((wr s3 35 (ix (s3 31 2)) l1) 31 2)) l2) 37 (ix ((wr (wr s3 35 (ix (s3 31 2)) l1) 36 (ix ((wr s3 35 (ix (s3 31 2)) l1) 31 2)) l2) 31 2)) l4) 31 2)) l3) 31 2) + 1)) 31 33 1) else none else none else none else none else none
                else
                  some ((-1), s3))))
def f_Mod_root (l1 l2 : Int32) (s : Sg) : Ro :=
  bnd (f_Mod_isPack l1 (wr s 31 0 0)) (fun v1 s1 =>
  if v1 = 0 then
    some (0, s1)
  else
    if inb l1 10 = true then
    if (s1 33 (ix l1)) = 0 then
      if inb l1 10 = true then
      if isb 1 = true then
      if inb l1 10 = true then
      if isb l2 = true then
      some (1, wr (wr (wr s1 33 (ix l1) 1) 34 (ix l1) l2) 31 33 1) else none else none else none else none
    else
      some (0, s1) else none)
def f_Mod_user (l1 l2 l3 l4 l5 l6 : Int32) (s : Sg) : Ro :=
  bnd (f_Mod_isPack l1 (wr s 31 0 0)) (fun v1 s1 =>
  if v1 = 0 then
    some ((-1), s1)
  else
    bnd (f_Mod_isPack l2 s1) (fun v2 s2 =>
    if v2 = 0 then
      some ((-1), s2)
    else
      if (s2 31 3) = 40 then
        some ((-1), s2)
      else
        if inb (s2 31 3) 40 = true then
        if inb ((wr s2 39 (ix (s2 31 3)) l1) 31 3) 40 = true then
        if inb ((wr (wr s2 39 (ix (s2 31 3)) l1) 40 (ix ((wr s2 39 (ix (s2 31 3)) l1) 31 3)) l2) 31 3) 40 = true then
        if isb l3 = true then
        if inb ((wr (wr (wr s2 39 (ix (s2 31 3)) l1) 40 (ix ((wr s2 39 (ix (s2 31 3)) l1) 31 3)) l2) 42 (ix ((wr (wr s2 39 (ix (s2 31 3)) l1) 40 (ix ((wr s2 39 (ix (s2 31 3)) l1) 31 3)) l2) 31 3)) l3) 31 3) 40 = true then
        if isb l4 = true then
        if inb ((wr (wr (wr (wr s2 39 (ix (s2 31 3)) l1) 40 (ix ((wr s2 39 (ix (s2 31 3)) l1) 31 3)) l2) 42 (ix ((wr (wr s2 39 (ix (s2 31 3)) l1) 40 (ix ((wr s2 39 (ix (s2 31 3)) l1) 31 3)) l2) 31 3)) l3) 43 (ix ((wr (wr (wr s2 39 (ix (s2 31 3)) l1) 40 (ix ((wr s2 39 (ix (s2 31 3)) l1) 31 3)) l2) 42 (ix ((wr (wr s2 39 (ix (s2 31 3)) l1) 40 (ix ((wr s2 39 (ix (s2 31 3)) l1) 31 3)) l2) 31 3)) l3) 31 3)) l4) 31 3) 40 = true then
        if isb l5 = true then
        if inb ((wr (wr (wr (wr (wr s2 39 (ix (s2 31 3)) l1) 40 (ix ((wr s2 39 (ix (s2 31 3)) l1) 31 3)) l2) 42 (ix ((wr (wr s2 39 (ix (s2 31 3)) l1) 40 (ix ((wr s2 39 (ix (s2 31 3)) l1) 31 3)) l2) 31 3)) l3) 43 (ix ((wr (wr (wr s2 39 (ix (s2 31 3)) l1) 40 (ix ((wr s2 39 (ix (s2 31 3)) l1) 31 3)) l2) 42 (ix ((wr (wr s2 39 (ix (s2 31 3)) l1) 40 (ix ((wr s2 39 (ix (s2 31 3)) l1) 31 3)) l2) 31 3)) l3) 31 3)) l4) 44 (ix ((wr (wr (wr (wr s2 39 (ix (s2 31 3)) l1) 40 (ix ((wr s2 39 (ix (s2 31 3)) l1) 31 3)) l2) 42 (ix ((wr (wr s2 39 (ix (s2 31 3)) l1) 40 (ix ((wr s2 39 (ix (s2 31 3)) l1) 31 3)) l2) 31 3)) l3) 43 (ix ((wr (wr (wr s2 39 (ix (s2 31 3)) l1) 40 (ix ((wr s2 39 (ix (s2 31 3)) l1) 31 3)) l2) 42 (ix ((wr (wr s2 39 (ix (s2 31 3)) l1) 40 (ix ((wr s2 39 (ix (s2 31 3)) l1) 31 3)) l2) 31 3)) l3) 31 3)) l4) 31 3)) l5) 31 3) 40 = true then
        some (((wr (wr (wr (wr (wr (wr (wr (wr s2 39 (ix (s2 31 3)) l1) 40 (ix ((wr s2 39 (ix (s2 31 3)) l1) 31 3)) l2) 42 (ix ((wr (wr s2 39 (ix (s2 31 3)) l1) 40 (ix ((wr s2 39 (ix (s2 31 3)) l1) 31 3)) l2) 31 3)) l3) 43 (ix ((wr (wr (wr s2 39 (ix (s2 31 3)) l1) 40 (ix ((wr s2 39 (ix (s2 31 3)) l1) 31 3)) l2) 42 (ix ((wr (wr s2 39 (ix (s2 31 3)) l1) 40 (ix ((wr s2 39 (ix (s2 31 3)) l1) 31 3)) l2) 31 3)) l3) 31 3)) l4) 44 (ix ((wr (wr (wr (wr s2 39 (ix (s2 31 3)) l1) 40 (ix ((wr s2 39 (ix (s2 31 3)) l1) 31 3)) l2) 42 (ix ((wr (wr s2 39 (ix (s2 31 3)) l1) 40 (ix ((wr s2 39 (ix (s2 31 3)) l1) 31 3)) l2) 31 3)) l3) 43 (ix ((wr (wr (wr s2 39 (ix (s2 31 3)) l1) 40 (ix ((wr s2 39 (ix (s2 31 3)) l1) 31 3)) l2) 42 (ix ((wr (wr s2 39 (ix (s2 31 3)) l1) 40 (ix ((wr s2 39 (ix (s2 31 3)) l1) 31 3)) l2) 31 3)) l3) 31 3)) l4) 31 3)) l5) 41 (ix ((wr (wr (wr (wr (wr s2 39 (ix (s2 31 3)) l1) 40 (ix ((wr s2 39 (ix (s2 31 3)) l1) 31 3)) l2) 42 (ix ((wr (wr s2 39 (ix (s2 31 3)) l1) 40 (ix ((wr s2 39 (ix (s2 31 3)) l1) 31 3)) l2) 31 3)) l3) 43 (ix ((wr (wr (wr s2 39 (ix (s2 31 3)) l1) 40 (ix ((wr s2 39 (ix (s2 31 3)) l1) 31 3)) l2) 42 (ix ((wr (wr s2 39 (ix (s2 31 3)) l1) 40 (ix ((wr s2 39 (ix (s2 31 3)) l1) 31 3)) l2) 31 3)) l3) 31 3)) l4) 44 (ix ((wr (wr (wr (wr s2 39 (ix (s2 31 3)) l1) 40 (ix ((wr s2 39 (ix (s2 31 3)) l1) 31 3)) l2) 42 (ix ((wr (wr s2 39 (ix (s2 31 3)) l1) 40 (ix ((wr s2 39 (ix (s2 31 3)) l1) 31 3)) l2) 31 3)) l3) 43 (ix ((wr (wr (wr s2 39 (ix (s2 31 3)) l1) 40 (ix ((wr s2 39 (ix (s2 31 3)) l1) 31 3)) l2) 42 (ix ((wr (wr s2 39 (ix (s2 31 3)) l1) 40 (ix ((wr s2 39 (ix (s2 31 3)) l1) 31 3)) l2) 31 3)) l3) 31 3)) l4) 31 3)) l5) 31 3)) l6) 31 3 (((wr (wr (wr (wr (wr (wr s2 39 (ix (s2 31 3)) l1) 40 (ix ((wr s2 39 (ix (s2 31 3)) l1) 31 3)) l2) 42 (ix ((wr (wr s2 39 (ix (s2 31 3)) l1) 40 (ix ((wr s2 39 (ix (s2 31 3)) l1) 31 3)) l2) 31 3)) l3) 43 (ix ((wr (wr (wr s2 39 (ix (s2 31 3)) l1) 40 (ix ((wr s2 39 (ix (s2 31 3)) l1) 31 3)) l2) 42 (ix ((wr (wr s2 39 (ix (s2 31 3)) l1) 40 (ix ((wr s2 39 (ix (s2 31 3)) l1) 31 3)) l2) 31 3)) l3) 31 3)) l4) 44 (ix ((wr (wr (wr (wr s2 39 (ix (s2 31 3)) l1) 40 (ix ((wr s2 39 (ix (s2 31 3)) l1) 31 3)) l2) 42 (ix ((wr (wr s2 39 (ix (s2 31 3)) l1) 40 (ix ((wr s2 39 (ix (s2 31 3)) l1) 31 3)) l2) 31 3)) l3) 43 (ix ((wr (wr (wr s2 39 (ix (s2 31 3)) l1) 40 (ix ((wr s2 39 (ix (s2 31 3)) l1) 31 3)) l2) 42 (ix ((wr (wr s2 39 (ix (s2 31 3)) l1) 40 (ix ((wr s2 39 (ix (s2 31 3)) l1) 31 3)) l2) 31 3)) l3) 31 3)) l4) 31 3)) l5) 41 (ix ((wr (wr (wr (wr (wr s2 39 (ix (s2 31 3)) l1) 40 (ix ((wr s2 39 (ix (s2 31 3)) l1) 31 3)) l2) 42 (ix ((wr (wr s2 39 (ix (s2 31 3)) l1) 40 (ix ((wr s2 39 (ix (s2 31 3)) l1) 31 3)) l2) 31 3)) l3) 43 (ix ((wr (wr (wr s2 39 (ix (s2 31 3)) l1) 40 (ix ((wr s2 39 (ix (s2 31 3)) l1) 31 3)) l2) 42 (ix ((wr (wr s2 39 (ix (s2 31 3)) l1) 40 (ix ((wr s2 39 (ix (s2 31 3)) l1) 31 3)) l2) 31 3)) l3) 31 3)) l4) 44 (ix ((wr (wr (wr (wr s2 39 (ix (s2 31 3)) l1) 40 (ix ((wr s2 39 (ix (s2 31 3)) l1) 31 3)) l2) 42 (ix ((wr (wr s2 39 (ix (s2 31 3)) l1) 40 (ix ((wr s2 39 (ix (s2 31 3)) l1) 31 3)) l2) 31 3)) l3) 43 (ix ((wr (wr (wr s2 39 (ix (s2 31 3)) l1) 40 (ix ((wr s2 39 (ix (s2 31 3)) l1) 31 3)) l2) 42 (ix ((wr (wr s2 39 (ix (s2 31 3)) l1) 40 (ix ((wr s2 39 (ix (s2 31 3)) l1) 31 3)) l2) 31 3)) l3) 31 3)) l4) 31 3)) l5) 31 3)) l6) 31 3) + 1)) 31 33 1) 31 3) - 1, wr (wr (wr (wr (wr (wr (wr (wr s2 39 (ix (s2 31 3)) l1) 40 (ix ((wr s2 39 (ix (s2 31 3)) l1) 31 3)) l2) 42 (ix ((wr (wr s2 39 (ix (s2 31 3)) l1) 40 (ix ((wr s2 39 (ix (s2 31 3)) l1) 31 3)) l2) 31 3)) l3) 43 (ix ((wr (wr (wr s2 39 (ix (s2 31 3)) l1) 40 (ix ((wr s2 39 (ix (s2 31 3)) l1) 31 3)) l2) 42 (ix ((wr (wr s2 39 (ix (s2 31 3)) l1) 40 (ix ((wr s2 39 (ix (s2 31 3)) l1) 31 3)) l2) 31 3)) l3) 31 3)) l4) 44 (ix ((wr (wr (wr (wr s2 39 (ix (s2 31 3)) l1) 40 (ix ((wr s2 39 (ix (s2 31 3)) l1) 31 3)) l2) 42 (ix ((wr (wr s2 39 (ix (s2 31 3)) l1) 40 (ix ((wr s2 39 (ix (s2 31 3)) l1) 31 3)) l2) 31 3)) l3) 43 (ix ((wr (wr (wr s2 39 (ix (s2 31 3)) l1) 40 (ix ((wr s2 39 (ix (s2 31 3)) l1) 31 3)) l2) 42 (ix ((wr (wr s2 39 (ix (s2 31 3)) l1) 40 (ix ((wr s2 39 (ix (s2 31 3)) l1) 31 3)) l2) 31 3)) l3) 31 3)) l4) 31 3)) l5) 41 (ix ((wr (wr (wr (wr (wr s2 39 (ix (s2 31 3)) l1) 40 (ix ((wr s2 39 (ix (s2 31 3)) l1) 31 3)) l2) 42 (ix ((wr (wr s2 39 (ix (s2 31 3)) l1) 40 (ix ((wr s2 39 (ix (s2 31 3)) l1) 31 3)) l2) 31 3)) l3) 43 (ix ((wr (wr (wr s2 39 (ix (s2 31 3)) l1) 40 (ix ((wr s2 39 (ix (s2 31 3)) l1) 31 3)) l2) 42 (ix ((wr (wr s2 39 (ix (s2 31 3)) l1) 40 (ix ((wr s2 39 (ix (s2 31 3)) l1) 31 3)) l2) 31 3)) l3) 31 3)) l4) 44 (ix ((wr (wr (wr (wr s2 39 (ix (s2 31 3)) l1) 40 (ix ((wr s2 39 (ix (s2 31 3)) l1) 31 3)) l2) 42 (ix ((wr (wr s2 39 (ix (s2 31 3)) l1) 40 (ix ((wr s2 39 (ix (s2 31 3)) l1) 31 3)) l2) 31 3)) l3) 43 (ix ((wr (wr (wr s2 39 (ix (s2 31 3)) l1) 40 (ix ((wr s2 39 (ix (s2 31 3)) l1) 31 3)) l2) 42 (ix ((wr (wr s2 39 (ix (s2 31 3)) l1) 40 (ix ((wr s2 39 (ix (s2 31 3)) l1) 31 3)) l2) 31 3)) l3) 31 3)) l4) 31 3)) l5) 31 3)) l6) 31 3 (((wr (wr (wr (wr (wr (wr s2 39 (ix (s2 31 3)) l1) 40 (ix ((wr s2 39 (ix (s2 31 3)) l1) 31 3)) l2) 42 (ix ((wr (wr s2 39 (ix (s2 31 3)) l1) 40 (ix ((wr s2 39 (ix (s2 31 3)) l1) 31 3)) l2) 31 3)) l3) 43 (ix ((wr (wr (wr s2 39 (ix (s2 31 3)) l1) 40 (ix ((wr s2 39 (ix (s2 31 3)) l1) 31 3)) l2) 42 (ix ((wr (wr s2 39 (ix (s2 31 3)) l1) 40 (ix ((wr s2 39 (ix (s2 31 3)) l1) 31 3)) l2) 31 3)) l3) 31 3)) l4) 44 (ix ((wr (wr (wr (wr s2 39 (ix (s2 31 3)) l1) 40 (ix ((wr s2 39 (ix (s2 31 3)) l1) 31 3)) l2) 42 (ix ((wr (wr s2 39 (ix (s2 31 3)) l1) 40 (ix ((wr s2 39 (ix (s2 31 3)) l1) 31 3)) l2) 31 3)) l3) 43 (ix ((wr (wr (wr s2 39 (ix (s2 31 3)) l1) 40 (ix ((wr s2 39 (ix (s2 31 3)) l1) 31 3)) l2) 42 (ix ((wr (wr s2 39 (ix (s2 31 3)) l1) 40 (ix ((wr s2 39 (ix (s2 31 3)) l1) 31 3)) l2) 31 3)) l3) 31 3)) l4) 31 3)) l5) 41 (ix ((wr (wr (wr (wr (wr s2 39 (ix (s2 31 3)) l1) 40 (ix ((wr s2 39 (ix (s2 31 3)) l1) 31 3)) l2) 42 (ix ((wr (wr s2 39 (ix (s2 31 3)) l1) 40 (ix ((wr s2 39 (ix (s2 31 3)) l1) 31 3)) l2) 31 3)) l3) 43 (ix ((wr (wr (wr s2 39 (ix (s2 31 3)) l1) 40 (ix ((wr s2 39 (ix (s2 31 3)) l1) 31 3)) l2) 42 (ix ((wr (wr s2 39 (ix (s2 31 3)) l1) 40 (ix ((wr s2 39 (ix (s2 31 3)) l1) 31 3)) l2) 31 3)) l3) 31 3)) l4) 44 (ix ((wr (wr (wr (wr s2 39 (ix (s2 31 3)) l1) 40 (ix ((wr s2 39 (ix (s2 31 3)) l1) 31 3)) l2) 42 (ix ((wr (wr s2 39 (ix (s2 31 3)) l1) 40 (ix ((wr s2 39 (ix (s2 31 3)) l1) 31 3)) l2) 31 3)) l3) 43 (ix ((wr (wr (wr s2 39 (ix (s2 31 3)) l1) 40 (ix ((wr s2 39 (ix (s2 31 3)) l1) 31 3)) l2) 42 (ix ((wr (wr s2 39 (ix (s2 31 3)) l1) 40 (ix ((wr s2 39 (ix (s2 31 3)) l1) 31 3)) l2) 31 3)) l3) 31 3)) l4) 31 3)) l5) 31 3)) l6) 31 3) + 1)) 31 33 1) else none else none else none else none else none else none else none else none else none))
def f_Mod_asking_6  (l1 l2 l3 : Int32) : Int32 → Int32 → Sg → Ro := itr2 (fun rec6 l4 l5 s =>
  if l3 ≤ l5 then
    some (l4, s)
  else
    if inb l5 400 = true then
    if (s 45 (ix l5)) = l1 then
      if inb l5 400 = true then
      if (s 46 (ix l5)) = l2 then
        rec6 l5 (l5 + 1) s
      else
        rec6 l4 (l5 + 1) s else none
    else
      rec6 l4 (l5 + 1) s else none) 4096
def f_Mod_asking (l1 l2 l3 : Int32) (s : Sg) : Ro :=
  f_Mod_asking_6 l1 l2 l3 (-1) 0 s
def f_Mod_asks (l1 l2 : Int32) (s : Sg) : Ro :=
  bnd (f_Mod_isUser l1 (wr s 31 0 0)) (fun v1 s1 =>
  if v1 = 0 then
    some ((-1), s1)
  else
    if inb l1 40 = true then
    bnd (f_Mod_named (s1 40 (ix l1)) l2 s1) (fun v2 s2 =>
    if v2 = (-1) then
      some ((-2), s2)
    else
      bnd (f_Mod_asking l1 v2 (s2 31 4) s2) (fun v3 s3 =>
      if v3 = (-1) then
        if inb (s3 31 4) 400 = true then
        if inb ((wr s3 45 (ix (s3 31 4)) l1) 31 4) 400 = true then
        some (1, wr (wr (wr (wr s3 45 (ix (s3 31 4)) l1) 46 (ix ((wr s3 45 (ix (s3 31 4)) l1) 31 4)) v2) 31 4 (((wr (wr s3 45 (ix (s3 31 4)) l1) 46 (ix ((wr s3 45 (ix (s3 31 4)) l1) 31 4)) v2) 31 4) + 1)) 31 33 1) else none else none
      else
        some ((-3), s3))) else none)
def f_Mod_turn_172  (l6 : Int32) (t0 t1 : Int32) (s : Sg) : Ro :=
  if inb t1 60 = true then
  if inb ((wr s 49 (ix t1) t0) 31 5) 60 = true then
  some (((wr (wr (wr (wr s 49 (ix t1) t0) 50 (ix ((wr s 49 (ix t1) t0) 31 5)) l6) 31 5 (((wr (wr s 49 (ix t1) t0) 50 (ix ((wr s 49 (ix t1) t0) 31 5)) l6) 31 5) + 1)) 31 33 1) 31 5) - 1, wr (wr (wr (wr s 49 (ix t1) t0) 50 (ix ((wr s 49 (ix t1) t0) 31 5)) l6) 31 5 (((wr (wr s 49 (ix t1) t0) 50 (ix ((wr s 49 (ix t1) t0) 31 5)) l6) 31 5) + 1)) 31 33 1) else none else none
def f_Mod_turn_135  (l1 l2 l3 l6 : Int32) (s : Sg) : Ro :=
  if inb (s 31 5) 60 = true then
  if inb ((wr s 47 (ix (s 31 5)) l1) 31 5) 60 = true then
  if l2 = 0 then
    f_Mod_turn_172 l6 (-1) ((wr (wr s 47 (ix (s 31 5)) l1) 48 (ix ((wr s 47 (ix (s 31 5)) l1) 31 5)) l2) 31 5) (wr (wr s 47 (ix (s 31 5)) l1) 48 (ix ((wr s 47 (ix (s 31 5)) l1) 31 5)) l2)
  else
    f_Mod_turn_172 l6 l3 ((wr (wr s 47 (ix (s 31 5)) l1) 48 (ix ((wr s 47 (ix (s 31 5)) l1) 31 5)) l2) 31 5) (wr (wr s 47 (ix (s 31 5)) l1) 48 (ix ((wr s 47 (ix (s 31 5)) l1) 31 5)) l2) else none else none
def f_Mod_turn_123  (l1 l2 l3 l6 : Int32) (s : Sg) : Ro :=
  if l2 = 0 then
    if l6 = l1 then
      some ((-1), s)
    else
      f_Mod_turn_135 l1 l2 l3 l6 s
  else
    f_Mod_turn_135 l1 l2 l3 l6 s
def f_Mod_turn_110  (l1 l2 l3 : Int32) (t0 : Int32) (s : Sg) : Ro :=
  if l2 = 1 then
    f_Mod_turn_123 l1 l2 l3 t0 s
  else
    if t0 = (-1) then
      some ((-1), s)
    else
      f_Mod_turn_123 l1 l2 l3 t0 s
def f_Mod_turn_105  (l1 l2 l3 l4 : Int32) (t0 : Int32) (s : Sg) : Ro :=
  bnd (f_Mod_named t0 l4 s) (fun v1 s1 =>
  f_Mod_turn_110 l1 l2 l3 v1 s1)
def f_Mod_turn_80  (l1 l2 l3 l4 l5 : Int32) (s : Sg) : Ro :=
  if l2 = 1 then
    f_Mod_turn_110 l1 l2 l3 (-1) s
  else
    if l2 = 0 then
      f_Mod_turn_105 l1 l2 l3 l4 l5 s
    else
      if inb l3 40 = true then
      f_Mod_turn_105 l1 l2 l3 l4 (s 40 (ix l3)) s else none
def f_Mod_turn_64  (l1 l2 l3 l4 l5 : Int32) (s : Sg) : Ro :=
  if l2 = 1 then
    if inb l3 40 = true then
    if (s 44 (ix l3)) = 0 then
      some ((-1), s)
    else
      f_Mod_turn_80 l1 l2 l3 l4 l5 s else none
  else
    f_Mod_turn_80 l1 l2 l3 l4 l5 s
def f_Mod_turn (l1 l2 l3 l4 : Int32) (s : Sg) : Ro :=
  bnd (f_Mod_isFeature l1 (wr s 31 0 0)) (fun v1 s1 =>
  if v1 = 0 then
    some ((-1), s1)
  else
    if l2 < 0 then
      some ((-1), s1)
    else
      if 3 < l2 then
        some ((-1), s1)
      else
        if (s1 31 5) = 60 then
          some ((-1), s1)
        else
          if inb l1 60 = true then
          if l2 ≤ 0 then
            f_Mod_turn_64 l1 l2 l3 l4 (s1 35 (ix l1)) s1
          else
            bnd (f_Mod_isUser l3 s1) (fun v2 s2 =>
            if v2 = 0 then
              some ((-1), s2)
            else
              if inb l3 40 = true then
              if (s2 39 (ix l3)) = (s1 35 (ix l1)) then
                f_Mod_turn_64 l1 l2 l3 l4 (s1 35 (ix l1)) s2
              else
                some ((-1), s2) else none) else none)
def f_Mod_isFor (l1 : Int32) (s : Sg) : Ro :=
  if inb l1 40 = true then
  if (((s 41 (ix l1)) >>> ((s 31 30) &&& 31)) &&& 1) = 1 then
    some (1, s)
  else
    some (0, s) else none
def f_Mod_farSide (l1 l2 : Int32) (s : Sg) : Ro :=
  if inb l1 40 = true then
  if (s 43 (ix l1)) = 0 then
    some (l2, s)
  else
    some (1, s) else none
def f_Mod_came (l0 l1 : Int32) (s : Sg) : Ro :=
  if l0 ≤ 0 then
    some (0, s)
  else
    if l1 ≤ l0 then
      some (0, s)
    else
      some (1, s)
def f_Mod_comesThere_35 (rec23 : Int32 → Int32 → Sg → Ro) (l1 l2 l3 l5 : Int32) : Int32 → Int32 → Sg → Ro := itr2 (fun rec35 l4 l6 s =>
  if 2 ≤ l6 then
    rec23 l4 (l5 + 1) s
  else
    if l4 = 0 then
      bnd (f_Mod_isFor l5 s) (fun v1 s1 =>
      if v1 = 0 then
        rec35 0 (l6 + 1) s1
      else
        if inb l5 40 = true then
        if (s1 40 (ix l5)) = l1 then
          bnd (f_Mod_farSide l5 l6 s1) (fun v2 s2 =>
          if v2 = l2 then
            if inb ((2 * l5) + l6) 80 = true then
            bnd (f_Mod_came (s2 53 (ix ((2 * l5) + l6))) l3 s2) (fun v3 s3 =>
            if v3 = 0 then
              rec35 0 (l6 + 1) s3
            else
              rec35 1 (l6 + 1) s3) else none
          else
            rec35 0 (l6 + 1) s2)
        else
          rec35 0 (l6 + 1) s1 else none)
    else
      rec35 1 (l6 + 1) s) 4096
def f_Mod_comesThere_23  (l1 l2 l3 : Int32) : Int32 → Int32 → Sg → Ro := itr2 (fun rec23 l4 l5 s =>
  if (s 31 27) ≤ l5 then
    if isb l4 = true then some (l4, s) else none
  else
    f_Mod_comesThere_35 rec23 l1 l2 l3 l5 l4 0 s) 4096
def f_Mod_comesThere (l1 l2 l3 : Int32) (s : Sg) : Ro :=
  if inb l1 10 = true then
  if (s 51 (ix l1)) = 0 then
    f_Mod_comesThere_23 l1 l2 l3 0 0 s
  else
    if l2 = 0 then
      f_Mod_comesThere_23 l1 l2 l3 1 0 s
    else
      f_Mod_comesThere_23 l1 l2 l3 0 0 s else none
def f_Mod_comesLive_87 (rec51 : Int32 → Int32 → Sg → Ro) (l1 l2 l3 l5 : Int32) (s : Sg) : Ro :=
  if inb l5 60 = true then
  if (s 49 (ix l5)) = l1 then
    if inb l5 60 = true then
    if inb ((2 * (s 47 (ix l5))) + l2) 120 = true then
    bnd (f_Mod_came (s 54 (ix ((2 * (s 47 (ix l5))) + l2))) l3 s) (fun v1 s1 =>
    if v1 = 0 then
      rec51 0 (l5 + 1) s1
    else
      rec51 1 (l5 + 1) s1) else none else none
  else
    rec51 0 (l5 + 1) s else none
def f_Mod_comesLive_51  (l1 l2 l3 : Int32) : Int32 → Int32 → Sg → Ro := itr2 (fun rec51 l4 l5 s =>
  if (s 31 29) ≤ l5 then
    if isb l4 = true then some (l4, s) else none
  else
    if l4 = 0 then
      if inb l5 60 = true then
      if (s 48 (ix l5)) = 1 then
        f_Mod_comesLive_87 rec51 l1 l2 l3 l5 s
      else
        if inb l5 60 = true then
        if (s 48 (ix l5)) = 2 then
          f_Mod_comesLive_87 rec51 l1 l2 l3 l5 s
        else
          rec51 0 (l5 + 1) s else none else none
    else
      rec51 1 (l5 + 1) s) 4096
def f_Mod_comesLive (l1 l2 l3 : Int32) (s : Sg) : Ro :=
  bnd (f_Mod_isFor l1 s) (fun v1 s1 =>
  if v1 = 0 then
    some (0, s1)
  else
    if inb l1 40 = true then
    if (s1 44 (ix l1)) = 0 then
      if inb l1 40 = true then
      if inb ((2 * (s1 39 (ix l1))) + l2) 20 = true then
      bnd (f_Mod_came (s1 52 (ix ((2 * (s1 39 (ix l1))) + l2))) l3 s1) (fun v2 s2 =>
      if v2 = 0 then
        f_Mod_comesLive_51 l1 l2 l3 0 0 s2
      else
        f_Mod_comesLive_51 l1 l2 l3 1 0 s2) else none else none
    else
      f_Mod_comesLive_51 l1 l2 l3 0 0 s1 else none)
def f_Mod_tell (l1 l2 : Int32) (s : Sg) : Ro :=
  if inb (s 31 45) 400 = true then
  if inb ((wr s 59 (ix (s 31 45)) l1) 31 45) 400 = true then
  some (0, wr (wr (wr s 59 (ix (s 31 45)) l1) 60 (ix ((wr s 59 (ix (s 31 45)) l1) 31 45)) l2) 31 45 (((wr (wr s 59 (ix (s 31 45)) l1) 60 (ix ((wr s 59 (ix (s 31 45)) l1) 31 45)) l2) 31 45) + 1)) else none else none
def f_Mod_turnsOn_86  (l2 l3 l5 l6 l7 : Int32) (t0 t1 : Int32) (s : Sg) : Ro :=
  if t1 = t0 then
    bnd (f_Mod_isFor l7 s) (fun v1 s1 =>
    if v1 = 0 then
      some (0, s1)
    else
      bnd (f_Mod_farSide l7 l2 s1) (fun v2 s2 =>
      if v2 = l5 then
        if l3 = 4 then
          some (1, s2)
        else
          if inb ((2 * l7) + l2) 80 = true then
          bnd (f_Mod_came (s2 53 (ix ((2 * l7) + l2))) l6 s2) (fun v3 s3 =>
          if isb (nz v3) = true then some (nz v3, s3) else none) else none
      else
        some (0, s2)))
  else
    some (0, s)
def f_Mod_turnsOn (l1 l2 l3 l4 l5 l6 : Int32) (s : Sg) : Ro :=
  if inb l1 60 = true then
  if inb l1 60 = true then
  if (s 50 (ix l1)) = l4 then
    if inb l1 60 = true then
    if inb ((2 * (s 47 (ix l1))) + l2) 120 = true then
    bnd (f_Mod_came (s 54 (ix ((2 * (s 47 (ix l1))) + l2))) l6 s) (fun v1 s1 =>
    if v1 = 0 then
      some (0, s1)
    else
      if l3 = 3 then
        if inb l1 60 = true then
        if (s1 48 (ix l1)) = 0 then
          if l2 = l5 then
            some (1, s1)
          else
            some (0, s1)
        else
          some (0, s1) else none
      else
        if inb l1 60 = true then
        if l3 = 4 then
          f_Mod_turnsOn_86 l2 l3 l5 l6 (s 49 (ix l1)) 2 (s1 48 (ix l1)) s1
        else
          f_Mod_turnsOn_86 l2 l3 l5 l6 (s 49 (ix l1)) 3 (s1 48 (ix l1)) s1 else none) else none else none
  else
    some (0, s) else none else none
def f_Mod_gather_281 (rec271 : Int32 → Sg → Ro) (l1 l2 l3 l5 : Int32) : Int32 → Sg → Ro := itr1 (fun rec281 l6 s =>
  if (2 * (s 31 29)) ≤ l6 then
    rec271 (l5 + 1) s
  else
    bnd (f_Mod_turnsOn (l6 / 2) (l6 - l6 / 2 * 2) l5 l1 l2 l3 s) (fun v1 s1 =>
    if v1 = 0 then
      rec281 (l6 + 1) s1
    else
      bnd (f_Mod_tell l5 l6 s1) (fun v2 s2 =>
      rec281 (l6 + 1) s2))) 4096
def f_Mod_gather_271  (l1 l2 l3 l4 : Int32) : Int32 → Sg → Ro := itr1 (fun rec271 l5 s =>
  if 6 ≤ l5 then
    if inb l4 10 = true then
    if (s 32 (ix l4)) = 0 then
      if inb ((2 * l1) + (1 - l2)) 120 = true then
      bnd (f_Mod_came (s 54 (ix ((2 * l1) + (1 - l2)))) l3 s) (fun v1 s1 =>
      if v1 = 0 then
        some (0, s1)
      else
        if inb ((2 * l4) + l2) 20 = true then
        bnd (f_Mod_came (s1 52 (ix ((2 * l4) + l2))) l3 s1) (fun v2 s2 =>
        if v2 = 0 then
          some (0, s2)
        else
          bnd (f_Mod_tell 6 ((2 * l1) + (1 - l2)) s2) (fun v3 s3 =>
          some (0, s3))) else none) else none
    else
      some (0, s) else none
  else
    f_Mod_gather_281 rec271 l1 l2 l3 l5 0 s) 4096
def f_Mod_gather_170  (l1 l2 l3 l4 : Int32) : Int32 → Sg → Ro := itr1 (fun rec170 l5 s =>
  if (2 * (s 31 27)) ≤ l5 then
    f_Mod_gather_271 l1 l2 l3 l4 3 s
  else
    if inb l1 60 = true then
    if (s 38 (ix l1)) = 0 then
      rec170 (l5 + 1) s
    else
      if inb (l5 / 2) 40 = true then
      if (s 40 (ix (l5 / 2))) = l4 then
        if inb (l5 / 2) 40 = true then
        if (s 42 (ix (l5 / 2))) = 0 then
          rec170 (l5 + 1) s
        else
          bnd (f_Mod_isFor (l5 / 2) s) (fun v1 s1 =>
          if v1 = 0 then
            rec170 (l5 + 1) s1
          else
            bnd (f_Mod_farSide (l5 / 2) (l5 - l5 / 2 * 2) s1) (fun v2 s2 =>
            if v2 = l2 then
              if inb l5 80 = true then
              bnd (f_Mod_came (s2 53 (ix l5)) l3 s2) (fun v3 s3 =>
              if v3 = 0 then
                rec170 (l5 + 1) s3
              else
                bnd (f_Mod_tell 2 l5 s3) (fun v4 s4 =>
                rec170 (l5 + 1) s4)) else none
            else
              rec170 (l5 + 1) s2)) else none
      else
        rec170 (l5 + 1) s else none else none) 4096
def f_Mod_gather_72  (l1 l2 l3 l4 : Int32) : Int32 → Sg → Ro := itr1 (fun rec72 l5 s =>
  if (2 * (s 31 27)) ≤ l5 then
    f_Mod_gather_170 l1 l2 l3 l4 0 s
  else
    bnd (f_Mod_asking (l5 / 2) l1 (s 31 28) s) (fun v1 s1 =>
    if v1 = (-1) then
      rec72 (l5 + 1) s1
    else
      if v1 = (s1 31 40) then
        rec72 (l5 + 1) s1
      else
        bnd (f_Mod_isFor (l5 / 2) s1) (fun v2 s2 =>
        if v2 = 0 then
          rec72 (l5 + 1) s2
        else
          bnd (f_Mod_farSide (l5 / 2) (l5 - l5 / 2 * 2) s2) (fun v3 s3 =>
          if v3 = l2 then
            if inb l5 80 = true then
            bnd (f_Mod_came (s3 53 (ix l5)) l3 s3) (fun v4 s4 =>
            if v4 = 0 then
              rec72 (l5 + 1) s4
            else
              bnd (f_Mod_tell 1 l5 s4) (fun v5 s5 =>
              rec72 (l5 + 1) s5)) else none
          else
            rec72 (l5 + 1) s3)))) 4096
def f_Mod_gather (l1 l2 l3 : Int32) (s : Sg) : Ro :=
  if inb l1 60 = true then
  if inb ((wr s 31 45 0) 35 (ix l1)) 10 = true then
  if ((wr s 31 45 0) 51 (ix ((wr s 31 45 0) 35 (ix l1)))) = 0 then
    f_Mod_gather_72 l1 l2 l3 ((wr s 31 45 0) 35 (ix l1)) 0 (wr s 31 45 0)
  else
    if inb ((wr s 31 45 0) 35 (ix l1)) 10 = true then
    if ((wr s 31 45 0) 34 (ix ((wr s 31 45 0) 35 (ix l1)))) = 0 then
      f_Mod_gather_72 l1 l2 l3 ((wr s 31 45 0) 35 (ix l1)) 0 (wr s 31 45 0)
    else
      if inb l1 60 = true then
      if ((wr s 31 45 0) 38 (ix l1)) = 0 then
        f_Mod_gather_72 l1 l2 l3 ((wr s 31 45 0) 35 (ix l1)) 0 (wr s 31 45 0)
      else
        if l2 = 0 then
          if inb (2 * ((wr s 31 45 0) 35 (ix l1))) 20 = true then
          bnd (f_Mod_came ((wr s 31 45 0) 52 (ix (2 * ((wr s 31 45 0) 35 (ix l1))))) l3 (wr s 31 45 0)) (fun v1 s1 =>
          if v1 = 0 then
            f_Mod_gather_72 l1 l2 l3 ((wr s 31 45 0) 35 (ix l1)) 0 s1
          else
            bnd (f_Mod_tell 0 ((wr s 31 45 0) 35 (ix l1)) s1) (fun v2 s2 =>
            f_Mod_gather_72 l1 l2 l3 ((wr s 31 45 0) 35 (ix l1)) 0 s2)) else none
        else
          f_Mod_gather_72 l1 l2 l3 ((wr s 31 45 0) 35 (ix l1)) 0 (wr s 31 45 0) else none else none else none else none
def f_Mod_comesOn (l1 l2 l3 : Int32) (s : Sg) : Ro :=
  bnd (f_Mod_gather l1 l2 l3 s) (fun v1 s1 =>
  if (s1 31 45) ≤ 0 then
    some (0, s1)
  else
    some (1, s1))
def f_Mod_close_184 (rec67 : Int32 → Int32 → Sg → Ro) (l1 : Int32) : Int32 → Int32 → Sg → Ro := itr2 (fun rec184 l2 l3 s =>
  if (2 * (s 31 26)) ≤ l3 then
    rec67 l1 l2 s
  else
    if inb l3 120 = true then
    if 0 < (s 54 (ix l3)) then
      rec184 l2 (l3 + 1) s
    else
      bnd (f_Mod_comesOn (l3 / 2) (l3 - l3 / 2 * 2) l1 s) (fun v1 s1 =>
      if v1 = 0 then
        rec184 l2 (l3 + 1) s1
      else
        if inb l3 120 = true then
        rec184 1 (l3 + 1) (wr s1 54 (ix l3) l1) else none) else none) 4096
def f_Mod_close_131 (rec67 : Int32 → Int32 → Sg → Ro) (l1 : Int32) : Int32 → Int32 → Sg → Ro := itr2 (fun rec131 l2 l3 s =>
  if (2 * (s 31 27)) ≤ l3 then
    f_Mod_close_184 rec67 l1 l2 0 s
  else
    if inb l3 80 = true then
    if 0 < (s 53 (ix l3)) then
      rec131 l2 (l3 + 1) s
    else
      bnd (f_Mod_comesLive (l3 / 2) (l3 - l3 / 2 * 2) l1 s) (fun v1 s1 =>
      if v1 = 0 then
        rec131 l2 (l3 + 1) s1
      else
        if inb l3 80 = true then
        rec131 1 (l3 + 1) (wr s1 53 (ix l3) l1) else none) else none) 4096
def f_Mod_close_78 (rec67 : Int32 → Int32 → Sg → Ro) (l1 : Int32) : Int32 → Int32 → Sg → Ro := itr2 (fun rec78 l2 l3 s =>
  if (2 * (s 31 25)) ≤ l3 then
    f_Mod_close_131 rec67 l1 l2 0 s
  else
    if inb l3 20 = true then
    if 0 < (s 52 (ix l3)) then
      rec78 l2 (l3 + 1) s
    else
      bnd (f_Mod_comesThere (l3 / 2) (l3 - l3 / 2 * 2) l1 s) (fun v1 s1 =>
      if v1 = 0 then
        rec78 l2 (l3 + 1) s1
      else
        if inb l3 20 = true then
        rec78 1 (l3 + 1) (wr s1 52 (ix l3) l1) else none) else none) 4096
def f_Mod_close_67  : Int32 → Int32 → Sg → Ro := itr2 (fun rec67 l1 l2 s =>
  if l2 = 0 then
    some (l1 - 1, s)
  else
    f_Mod_close_78 rec67 (l1 + 1) 0 0 s) 4096
def f_Mod_close_44  : Int32 → Sg → Ro := itr1 (fun rec44 l1 s =>
  if 120 ≤ l1 then
    f_Mod_close_67 0 1 s
  else
    if inb l1 120 = true then
    rec44 (l1 + 1) (wr s 54 (ix l1) 0) else none) 4096
def f_Mod_close_23  : Int32 → Sg → Ro := itr1 (fun rec23 l1 s =>
  if 80 ≤ l1 then
    f_Mod_close_44 0 s
  else
    if inb l1 80 = true then
    rec23 (l1 + 1) (wr s 53 (ix l1) 0) else none) 4096
def f_Mod_close_2  : Int32 → Sg → Ro := itr1 (fun rec2 l1 s =>
  if 20 ≤ l1 then
    f_Mod_close_23 0 s
  else
    if inb l1 20 = true then
    rec2 (l1 + 1) (wr s 52 (ix l1) 0) else none) 4096
def f_Mod_close (s : Sg) : Ro :=
  f_Mod_close_2 0 s
def f_Mod_run_157  (l2 : Int32) : Int32 → Sg → Ro := itr1 (fun rec157 l3 s =>
  if 120 ≤ l3 then
    some (l2, s)
  else
    if inb l3 120 = true then
    if inb l3 120 = true then
    rec157 (l3 + 1) (wr s 57 (ix l3) (s 54 (ix l3))) else none else none) 4096
def f_Mod_run_131  (l2 : Int32) : Int32 → Sg → Ro := itr1 (fun rec131 l3 s =>
  if 80 ≤ l3 then
    f_Mod_run_157 l2 0 s
  else
    if inb l3 80 = true then
    if inb l3 80 = true then
    rec131 (l3 + 1) (wr s 56 (ix l3) (s 53 (ix l3))) else none else none) 4096
def f_Mod_run_105  (l2 : Int32) : Int32 → Sg → Ro := itr1 (fun rec105 l3 s =>
  if 20 ≤ l3 then
    f_Mod_run_131 l2 0 s
  else
    if inb l3 20 = true then
    if inb l3 20 = true then
    rec105 (l3 + 1) (wr s 55 (ix l3) (s 52 (ix l3))) else none else none) 4096
def f_Mod_run_64  : Int32 → Sg → Ro := itr1 (fun rec64 l2 s =>
  if 10 ≤ l2 then
    bnd (f_Mod_close (wr (wr s 31 32 1) 31 33 0)) (fun v1 s1 =>
    f_Mod_run_105 v1 0 s1)
  else
    if inb l2 10 = true then
    if inb l2 10 = true then
    if isb (s 33 (ix l2)) = true then
    rec64 (l2 + 1) (wr s 51 (ix l2) (s 33 (ix l2))) else none else none else none) 4096
def f_Mod_run (l1 : Int32) (s : Sg) : Ro :=
  if l1 < 0 then
    some ((-1), wr s 31 0 0)
  else
    if l1 < 8 then
      f_Mod_run_64 0 (wr (wr (wr (wr (wr (wr (wr s 31 0 0) 31 30 l1) 31 25 ((wr (wr s 31 0 0) 31 30 l1) 31 1)) 31 26 ((wr (wr (wr s 31 0 0) 31 30 l1) 31 25 ((wr (wr s 31 0 0) 31 30 l1) 31 1)) 31 2)) 31 27 ((wr (wr (wr (wr s 31 0 0) 31 30 l1) 31 25 ((wr (wr s 31 0 0) 31 30 l1) 31 1)) 31 26 ((wr (wr (wr s 31 0 0) 31 30 l1) 31 25 ((wr (wr s 31 0 0) 31 30 l1) 31 1)) 31 2)) 31 3)) 31 28 ((wr (wr (wr (wr (wr s 31 0 0) 31 30 l1) 31 25 ((wr (wr s 31 0 0) 31 30 l1) 31 1)) 31 26 ((wr (wr (wr s 31 0 0) 31 30 l1) 31 25 ((wr (wr s 31 0 0) 31 30 l1) 31 1)) 31 2)) 31 27 ((wr (wr (wr (wr s 31 0 0) 31 30 l1) 31 25 ((wr (wr s 31 0 0) 31 30 l1) 31 1)) 31 26 ((wr (wr (wr s 31 0 0) 31 30 l1) 31 25 ((wr (wr s 31 0 0) 31 30 l1) 31 1)) 31 2)) 31 3)) 31 4)) 31 29 ((wr (wr (wr (wr (wr (wr s 31 0 0) 31 30 l1) 31 25 ((wr (wr s 31 0 0) 31 30 l1) 31 1)) 31 26 ((wr (wr (wr s 31 0 0) 31 30 l1) 31 25 ((wr (wr s 31 0 0) 31 30 l1) 31 1)) 31 2)) 31 27 ((wr (wr (wr (wr s 31 0 0) 31 30 l1) 31 25 ((wr (wr s 31 0 0) 31 30 l1) 31 1)) 31 26 ((wr (wr (wr s 31 0 0) 31 30 l1) 31 25 ((wr (wr s 31 0 0) 31 30 l1) 31 1)) 31 2)) 31 3)) 31 28 ((wr (wr (wr (wr (wr s 31 0 0) 31 30 l1) 31 25 ((wr (wr s 31 0 0) 31 30 l1) 31 1)) 31 26 ((wr (wr (wr s 31 0 0) 31 30 l1) 31 25 ((wr (wr s 31 0 0) 31 30 l1) 31 1)) 31 2)) 31 27 ((wr (wr (wr (wr s 31 0 0) 31 30 l1) 31 25 ((wr (wr s 31 0 0) 31 30 l1) 31 1)) 31 26 ((wr (wr (wr s 31 0 0) 31 30 l1) 31 25 ((wr (wr s 31 0 0) 31 30 l1) 31 1)) 31 2)) 31 3)) 31 4)) 31 5))
    else
      some ((-1), wr s 31 0 0)
def f_Mod_isSide (l0 : Int32) (s : Sg) : Ro :=
  if l0 = 0 then
    some (1, s)
  else
    if l0 = 1 then
      some (1, s)
    else
      some (0, s)
def f_Mod_there (l1 l2 : Int32) (s : Sg) : Ro :=
  if l1 < 0 then
    some (0, wr s 31 0 0)
  else
    if ((wr s 31 0 0) 31 25) ≤ l1 then
      some (0, wr s 31 0 0)
    else
      bnd (f_Mod_isSide l2 (wr s 31 0 0)) (fun v1 s1 =>
      if v1 = 0 then
        some (0, s1)
      else
        if inb ((2 * l1) + l2) 20 = true then
        some (s1 55 (ix ((2 * l1) + l2)), s1) else none)
def f_Mod_live (l1 l2 : Int32) (s : Sg) : Ro :=
  if l1 < 0 then
    some (0, wr s 31 0 0)
  else
    if ((wr s 31 0 0) 31 27) ≤ l1 then
      some (0, wr s 31 0 0)
    else
      bnd (f_Mod_isSide l2 (wr s 31 0 0)) (fun v1 s1 =>
      if v1 = 0 then
        some (0, s1)
      else
        if inb ((2 * l1) + l2) 80 = true then
        some (s1 56 (ix ((2 * l1) + l2)), s1) else none)
def f_Mod_on (l1 l2 : Int32) (s : Sg) : Ro :=
  if l1 < 0 then
    some (0, wr s 31 0 0)
  else
    if ((wr s 31 0 0) 31 26) ≤ l1 then
      some (0, wr s 31 0 0)
    else
      bnd (f_Mod_isSide l2 (wr s 31 0 0)) (fun v1 s1 =>
      if v1 = 0 then
        some (0, s1)
      else
        if inb ((2 * l1) + l2) 120 = true then
        some (s1 57 (ix ((2 * l1) + l2)), s1) else none)
def f_Mod_reasoned_75  (l1 l2 : Int32) : Int32 → Sg → Ro := itr1 (fun rec75 l3 s =>
  if 120 ≤ l3 then
    bnd (f_Mod_gather l1 l2 1000 s) (fun v1 s1 =>
    some (1, s1))
  else
    if inb l3 120 = true then
    if inb l3 120 = true then
    rec75 (l3 + 1) (wr s 54 (ix l3) (s 57 (ix l3))) else none else none) 4096
def f_Mod_reasoned_49  (l1 l2 : Int32) : Int32 → Sg → Ro := itr1 (fun rec49 l3 s =>
  if 80 ≤ l3 then
    f_Mod_reasoned_75 l1 l2 0 s
  else
    if inb l3 80 = true then
    if inb l3 80 = true then
    rec49 (l3 + 1) (wr s 53 (ix l3) (s 56 (ix l3))) else none else none) 4096
def f_Mod_reasoned_23  (l1 l2 : Int32) : Int32 → Sg → Ro := itr1 (fun rec23 l3 s =>
  if 20 ≤ l3 then
    f_Mod_reasoned_49 l1 l2 0 s
  else
    if inb l3 20 = true then
    if inb l3 20 = true then
    rec23 (l3 + 1) (wr s 52 (ix l3) (s 55 (ix l3))) else none else none) 4096
def f_Mod_reasoned (l1 l2 : Int32) (s : Sg) : Ro :=
  if l1 < 0 then
    some (0, s)
  else
    if (s 31 26) ≤ l1 then
      some (0, s)
    else
      bnd (f_Mod_isSide l2 s) (fun v1 s1 =>
      if v1 = 0 then
        some (0, s1)
      else
        f_Mod_reasoned_23 l1 l2 0 s1)
def f_Mod_reasons (l1 l2 : Int32) (s : Sg) : Ro :=
  bnd (f_Mod_reasoned l1 l2 (wr s 31 0 0)) (fun v1 s1 =>
  if v1 = 0 then
    some (0, s1)
  else
    some (s1 31 45, s1))
def f_Mod_reason (l1 l2 l3 l4 : Int32) (s : Sg) : Ro :=
  bnd (f_Mod_reasoned l1 l2 (wr s 31 0 0)) (fun v1 s1 =>
  if v1 = 0 then
    some ((-1), s1)
  else
    if l3 < 0 then
      some ((-1), s1)
    else
      if l3 < (s1 31 45) then
        if l4 = 0 then
          if inb l3 400 = true then
          some (s1 59 (ix l3), s1) else none
        else
          if l4 = 1 then
            if inb l3 400 = true then
            some (s1 60 (ix l3), s1) else none
          else
            some ((-1), s1)
      else
        some ((-1), s1))
def f_Mod_clash_84 (rec10 : Int32 → Int32 → Sg → Ro) (rec25 : Int32 → Int32 → Sg → Ro) (l1 l2 l4 l5 : Int32) : Int32 → Int32 → Sg → Ro := itr2 (fun rec84 l3 l6 s =>
  if 2 ≤ l6 then
    rec25 l3 (l5 + 1) s
  else
    if inb ((2 * l4) + l6) 120 = true then
    if (s 57 (ix ((2 * l4) + l6))) = 0 then
      rec84 l3 (l6 + 1) s
    else
      if inb ((2 * l5) + l6) 120 = true then
      if (s 57 (ix ((2 * l5) + l6))) = 0 then
        rec84 l3 (l6 + 1) s
      else
        if l3 = l1 then
          if l2 = 0 then
            some (l4, s)
          else
            if l2 = 1 then
              some (l5, s)
            else
              if l2 = 2 then
                some (l6, s)
              else
                some ((-1), s)
        else
          rec84 (l3 + 1) (l6 + 1) s else none else none) 4096
def f_Mod_clash_25 (rec10 : Int32 → Int32 → Sg → Ro) (l1 l2 l4 : Int32) : Int32 → Int32 → Sg → Ro := itr2 (fun rec25 l3 l5 s =>
  if (s 31 26) ≤ l5 then
    rec10 l3 (l4 + 1) s
  else
    if inb l4 60 = true then
    if inb l5 60 = true then
    if (s 35 (ix l4)) = (s 35 (ix l5)) then
      if inb l4 60 = true then
      if (s 37 (ix l4)) = 0 then
        rec25 l3 (l5 + 1) s
      else
        if inb l4 60 = true then
        if inb l5 60 = true then
        if (s 37 (ix l4)) = (s 37 (ix l5)) then
          f_Mod_clash_84 rec10 rec25 l1 l2 l4 l5 l3 0 s
        else
          rec25 l3 (l5 + 1) s else none else none else none
    else
      rec25 l3 (l5 + 1) s else none else none) 4096
def f_Mod_clash_10  (l1 l2 : Int32) : Int32 → Int32 → Sg → Ro := itr2 (fun rec10 l3 l4 s =>
  if (s 31 26) ≤ l4 then
    some ((-1), s)
  else
    f_Mod_clash_25 rec10 l1 l2 l4 l3 (l4 + 1) s) 4096
def f_Mod_clash (l1 l2 : Int32) (s : Sg) : Ro :=
  f_Mod_clash_10 l1 l2 0 0 (wr s 31 0 0)
def f_Mod_without_94  : Int32 → Sg → Ro := itr1 (fun rec94 l5 s =>
  if (2 * (s 31 26)) ≤ l5 then
    some (s 31 42, s)
  else
    if inb l5 120 = true then
    if (s 57 (ix l5)) = 0 then
      rec94 (l5 + 1) s
    else
      if inb l5 120 = true then
      if (s 54 (ix l5)) ≤ 0 then
        if inb (s 31 42) 120 = true then
        rec94 (l5 + 1) (wr (wr s 58 (ix (s 31 42)) l5) 31 42 (((wr s 58 (ix (s 31 42)) l5) 31 42) + 1)) else none
      else
        rec94 (l5 + 1) s else none else none) 4096
def f_Mod_without_60  (t0 : Int32) (s : Sg) : Ro :=
  if t0 = (-1) then
    some ((-1), s)
  else
    bnd (f_Mod_close (wr s 31 40 t0)) (fun v1 s1 =>
    f_Mod_without_94 0 (wr (wr s1 31 40 (-1)) 31 42 0))
def f_Mod_without (l1 l2 : Int32) (s : Sg) : Ro :=
  if ((wr s 31 0 0) 31 32) = 0 then
    some ((-1), wr s 31 0 0)
  else
    if ((wr s 31 0 0) 31 33) = 0 then
      bnd (f_Mod_isUser l1 (wr s 31 0 0)) (fun v1 s1 =>
      if v1 = 0 then
        some ((-1), s1)
      else
        if inb l1 40 = true then
        bnd (f_Mod_named (s1 40 (ix l1)) l2 s1) (fun v2 s2 =>
        if v2 = (-1) then
          f_Mod_without_60 (-1) s2
        else
          bnd (f_Mod_asking l1 v2 (s2 31 4) s2) (fun v3 s3 =>
          f_Mod_without_60 v3 s3)) else none)
    else
      some ((-1), wr s 31 0 0)
def f_Mod_left (l1 : Int32) (s : Sg) : Ro :=
  if l1 < 0 then
    some ((-1), wr s 31 0 0)
  else
    if l1 < ((wr s 31 0 0) 31 42) then
      if inb l1 120 = true then
      some ((wr s 31 0 0) 58 (ix l1), wr s 31 0 0) else none
    else
      some ((-1), wr s 31 0 0)
def f_Law_law_139 (L0 : Nat) (xs : Nat → Int32) (rec18 : Int32 → Sg → Ro) (l3 : Int32) (t0 t1 : Int32) (s : Sg) : Ro :=
  bnd (f_Mod_pack t0 s) (fun v1 s1 =>
  if t1 = v1 then
    rec18 (l3 + 7) s1
  else
    some (0, s1))
def f_Law_law_122 (L0 : Nat) (xs : Nat → Int32) (rec18 : Int32 → Sg → Ro) (l3 : Int32) (t0 : Int32) (s : Sg) : Ro :=
  bnd (f_FU_pack t0 s) (fun v1 s1 =>
  if inb (l3 + 1) L0 = true then
  f_Law_law_139 L0 xs rec18 l3 (nz (xs (ix (l3 + 1)))) v1 s1 else none)
def f_Law_law_203 (L0 : Nat) (xs : Nat → Int32) (rec18 : Int32 → Sg → Ro) (l3 : Int32) (t0 t1 t2 t3 : Int32) (s : Sg) : Ro :=
  if inb (l3 + 4) L0 = true then
  bnd (f_Mod_feature t2 t1 t0 (xs (ix (l3 + 4))) s) (fun v1 s1 =>
  if t3 = v1 then
    rec18 (l3 + 7) s1
  else
    some (0, s1)) else none
def f_Law_law_171 (L0 : Nat) (xs : Nat → Int32) (rec18 : Int32 → Sg → Ro) (l3 : Int32) (t0 t1 t2 : Int32) (s : Sg) : Ro :=
  if inb (l3 + 4) L0 = true then
  bnd (f_FU_feature t2 t1 t0 (xs (ix (l3 + 4))) s) (fun v1 s1 =>
  if inb (l3 + 1) L0 = true then
  if inb (l3 + 2) L0 = true then
  if inb (l3 + 3) L0 = true then
  f_Law_law_203 L0 xs rec18 l3 (nz (xs (ix (l3 + 3)))) (xs (ix (l3 + 2))) (xs (ix (l3 + 1))) v1 s1 else none else none else none) else none
def f_Law_law_257 (L0 : Nat) (xs : Nat → Int32) (rec18 : Int32 → Sg → Ro) (l3 : Int32) (t0 t1 t2 : Int32) (s : Sg) : Ro :=
  bnd (f_Mod_root t1 t0 s) (fun v1 s1 =>
  if t2 = v1 then
    rec18 (l3 + 7) s1
  else
    some (0, s1))
def f_Law_law_235 (L0 : Nat) (xs : Nat → Int32) (rec18 : Int32 → Sg → Ro) (l3 : Int32) (t0 t1 : Int32) (s : Sg) : Ro :=
  bnd (f_FU_root t1 t0 s) (fun v1 s1 =>
  if inb (l3 + 1) L0 = true then
  if inb (l3 + 2) L0 = true then
  f_Law_law_257 L0 xs rec18 l3 (nz (xs (ix (l3 + 2)))) (xs (ix (l3 + 1))) v1 s1 else none else none)
def f_Law_law_374 (L0 : Nat) (xs : Nat → Int32) (rec18 : Int32 → Sg → Ro) (l3 : Int32) (t0 t1 t2 t3 t4 t5 : Int32) (s : Sg) : Ro :=
  if inb (l3 + 6) L0 = true then
  bnd (f_Mod_user t4 t3 t2 t1 t0 (xs (ix (l3 + 6))) s) (fun v1 s1 =>
  if t5 = v1 then
    rec18 (l3 + 7) s1
  else
    some (0, s1)) else none
def f_Law_law_361 (L0 : Nat) (xs : Nat → Int32) (rec18 : Int32 → Sg → Ro) (l3 : Int32) (t0 t1 t2 t3 t4 : Int32) (s : Sg) : Ro :=
  if inb (l3 + 5) L0 = true then
  f_Law_law_374 L0 xs rec18 l3 (nz (xs (ix (l3 + 5)))) t0 t1 t2 t3 t4 s else none
def f_Law_law_348 (L0 : Nat) (xs : Nat → Int32) (rec18 : Int32 → Sg → Ro) (l3 : Int32) (t0 t1 t2 t3 : Int32) (s : Sg) : Ro :=
  if inb (l3 + 4) L0 = true then
  f_Law_law_361 L0 xs rec18 l3 (nz (xs (ix (l3 + 4)))) t0 t1 t2 t3 s else none
def f_Law_law_315 (L0 : Nat) (xs : Nat → Int32) (rec18 : Int32 → Sg → Ro) (l3 : Int32) (t0 t1 t2 t3 t4 : Int32) (s : Sg) : Ro :=
  if inb (l3 + 6) L0 = true then
  bnd (f_FU_user t4 t3 t2 t1 t0 (xs (ix (l3 + 6))) s) (fun v1 s1 =>
  if inb (l3 + 1) L0 = true then
  if inb (l3 + 2) L0 = true then
  if inb (l3 + 3) L0 = true then
  f_Law_law_348 L0 xs rec18 l3 (nz (xs (ix (l3 + 3)))) (xs (ix (l3 + 2))) (xs (ix (l3 + 1))) v1 s1 else none else none else none) else none
def f_Law_law_302 (L0 : Nat) (xs : Nat → Int32) (rec18 : Int32 → Sg → Ro) (l3 : Int32) (t0 t1 t2 t3 : Int32) (s : Sg) : Ro :=
  if inb (l3 + 5) L0 = true then
  f_Law_law_315 L0 xs rec18 l3 (nz (xs (ix (l3 + 5)))) t0 t1 t2 t3 s else none
def f_Law_law_289 (L0 : Nat) (xs : Nat → Int32) (rec18 : Int32 → Sg → Ro) (l3 : Int32) (t0 t1 t2 : Int32) (s : Sg) : Ro :=
  if inb (l3 + 4) L0 = true then
  f_Law_law_302 L0 xs rec18 l3 (nz (xs (ix (l3 + 4)))) t0 t1 t2 s else none
def f_Law_law_18 (L0 : Nat) (xs : Nat → Int32)  : Int32 → Sg → Ro := itr1 (fun rec18 l3 s =>
  if ((Int32.ofNat L0) - 7) < l3 then
    some (1, s)
  else
    if inb l3 L0 = true then
    if ((xs (ix l3)) &&& 15) = 0 then
      if inb (l3 + 1) L0 = true then
      f_Law_law_122 L0 xs rec18 l3 (nz (xs (ix (l3 + 1)))) s else none
    else
    if ((xs (ix l3)) &&& 15) = 1 then
      if inb (l3 + 1) L0 = true then
      if inb (l3 + 2) L0 = true then
      if inb (l3 + 3) L0 = true then
      f_Law_law_171 L0 xs rec18 l3 (nz (xs (ix (l3 + 3)))) (xs (ix (l3 + 2))) (xs (ix (l3 + 1))) s else none else none else none
    else
    if ((xs (ix l3)) &&& 15) = 2 then
      if inb (l3 + 1) L0 = true then
      if inb (l3 + 2) L0 = true then
      f_Law_law_235 L0 xs rec18 l3 (nz (xs (ix (l3 + 2)))) (xs (ix (l3 + 1))) s else none else none
    else
    if ((xs (ix l3)) &&& 15) = 3 then
      if inb (l3 + 1) L0 = true then
      if inb (l3 + 2) L0 = true then
      if inb (l3 + 3) L0 = true then
      f_Law_law_289 L0 xs rec18 l3 (nz (xs (ix (l3 + 3)))) (xs (ix (l3 + 2))) (xs (ix (l3 + 1))) s else none else none else none
    else
    if ((xs (ix l3)) &&& 15) = 4 then
      if inb (l3 + 1) L0 = true then
      if inb (l3 + 2) L0 = true then
      bnd (f_FU_asks (xs (ix (l3 + 1))) (xs (ix (l3 + 2))) s) (fun v1 s1 =>
      if inb (l3 + 1) L0 = true then
      if inb (l3 + 2) L0 = true then
      bnd (f_Mod_asks (xs (ix (l3 + 1))) (xs (ix (l3 + 2))) s1) (fun v2 s2 =>
      if v1 = v2 then
        rec18 (l3 + 7) s2
      else
        some (0, s2)) else none else none) else none else none
    else
    if ((xs (ix l3)) &&& 15) = 5 then
      if inb (l3 + 1) L0 = true then
      if inb (l3 + 2) L0 = true then
      if inb (l3 + 3) L0 = true then
      if inb (l3 + 4) L0 = true then
      bnd (f_FU_turn (xs (ix (l3 + 1))) (xs (ix (l3 + 2))) (xs (ix (l3 + 3))) (xs (ix (l3 + 4))) s) (fun v3 s3 =>
      if inb (l3 + 1) L0 = true then
      if inb (l3 + 2) L0 = true then
      if inb (l3 + 3) L0 = true then
      if inb (l3 + 4) L0 = true then
      bnd (f_Mod_turn (xs (ix (l3 + 1))) (xs (ix (l3 + 2))) (xs (ix (l3 + 3))) (xs (ix (l3 + 4))) s3) (fun v4 s4 =>
      if v3 = v4 then
        rec18 (l3 + 7) s4
      else
        some (0, s4)) else none else none else none else none) else none else none else none else none
    else
    if ((xs (ix l3)) &&& 15) = 6 then
      if inb (l3 + 1) L0 = true then
      bnd (f_FU_run (xs (ix (l3 + 1))) s) (fun v5 s5 =>
      if inb (l3 + 1) L0 = true then
      bnd (f_Mod_run (xs (ix (l3 + 1))) s5) (fun v6 s6 =>
      if v5 = v6 then
        rec18 (l3 + 7) s6
      else
        some (0, s6)) else none) else none
    else
    if ((xs (ix l3)) &&& 15) = 7 then
      if inb (l3 + 1) L0 = true then
      if inb (l3 + 2) L0 = true then
      bnd (f_FU_there (xs (ix (l3 + 1))) (xs (ix (l3 + 2))) s) (fun v7 s7 =>
      if inb (l3 + 1) L0 = true then
      if inb (l3 + 2) L0 = true then
      bnd (f_Mod_there (xs (ix (l3 + 1))) (xs (ix (l3 + 2))) s7) (fun v8 s8 =>
      if v7 = v8 then
        rec18 (l3 + 7) s8
      else
        some (0, s8)) else none else none) else none else none
    else
    if ((xs (ix l3)) &&& 15) = 8 then
      if inb (l3 + 1) L0 = true then
      if inb (l3 + 2) L0 = true then
      bnd (f_FU_live (xs (ix (l3 + 1))) (xs (ix (l3 + 2))) s) (fun v9 s9 =>
      if inb (l3 + 1) L0 = true then
      if inb (l3 + 2) L0 = true then
      bnd (f_Mod_live (xs (ix (l3 + 1))) (xs (ix (l3 + 2))) s9) (fun v10 s10 =>
      if v9 = v10 then
        rec18 (l3 + 7) s10
      else
        some (0, s10)) else none else none) else none else none
    else
    if ((xs (ix l3)) &&& 15) = 9 then
      if inb (l3 + 1) L0 = true then
      if inb (l3 + 2) L0 = true then
      bnd (f_FU_on (xs (ix (l3 + 1))) (xs (ix (l3 + 2))) s) (fun v11 s11 =>
      if inb (l3 + 1) L0 = true then
      if inb (l3 + 2) L0 = true then
      bnd (f_Mod_on (xs (ix (l3 + 1))) (xs (ix (l3 + 2))) s11) (fun v12 s12 =>
      if v11 = v12 then
        rec18 (l3 + 7) s12
      else
        some (0, s12)) else none else none) else none else none
    else
    if ((xs (ix l3)) &&& 15) = 10 then
      if inb (l3 + 1) L0 = true then
      if inb (l3 + 2) L0 = true then
      bnd (f_FU_reasons (xs (ix (l3 + 1))) (xs (ix (l3 + 2))) s) (fun v13 s13 =>
      if inb (l3 + 1) L0 = true then
      if inb (l3 + 2) L0 = true then
      bnd (f_Mod_reasons (xs (ix (l3 + 1))) (xs (ix (l3 + 2))) s13) (fun v14 s14 =>
      if v13 = v14 then
        rec18 (l3 + 7) s14
      else
        some (0, s14)) else none else none) else none else none
    else
    if ((xs (ix l3)) &&& 15) = 11 then
      if inb (l3 + 1) L0 = true then
      if inb (l3 + 2) L0 = true then
      if inb (l3 + 3) L0 = true then
      if inb (l3 + 4) L0 = true then
      bnd (f_FU_reason (xs (ix (l3 + 1))) (xs (ix (l3 + 2))) (xs (ix (l3 + 3))) (xs (ix (l3 + 4))) s) (fun v15 s15 =>
      if inb (l3 + 1) L0 = true then
      if inb (l3 + 2) L0 = true then
      if inb (l3 + 3) L0 = true then
      if inb (l3 + 4) L0 = true then
      bnd (f_Mod_reason (xs (ix (l3 + 1))) (xs (ix (l3 + 2))) (xs (ix (l3 + 3))) (xs (ix (l3 + 4))) s15) (fun v16 s16 =>
      if v15 = v16 then
        rec18 (l3 + 7) s16
      else
        some (0, s16)) else none else none else none else none) else none else none else none else none
    else
    if ((xs (ix l3)) &&& 15) = 12 then
      if inb (l3 + 1) L0 = true then
      if inb (l3 + 2) L0 = true then
      bnd (f_FU_clash (xs (ix (l3 + 1))) (xs (ix (l3 + 2))) s) (fun v17 s17 =>
      if inb (l3 + 1) L0 = true then
      if inb (l3 + 2) L0 = true then
      bnd (f_Mod_clash (xs (ix (l3 + 1))) (xs (ix (l3 + 2))) s17) (fun v18 s18 =>
      if v17 = v18 then
        rec18 (l3 + 7) s18
      else
        some (0, s18)) else none else none) else none else none
    else
    if ((xs (ix l3)) &&& 15) = 13 then
      if inb (l3 + 1) L0 = true then
      if inb (l3 + 2) L0 = true then
      bnd (f_FU_without (xs (ix (l3 + 1))) (xs (ix (l3 + 2))) s) (fun v19 s19 =>
      if inb (l3 + 1) L0 = true then
      if inb (l3 + 2) L0 = true then
      bnd (f_Mod_without (xs (ix (l3 + 1))) (xs (ix (l3 + 2))) s19) (fun v20 s20 =>
      if v19 = v20 then
        rec18 (l3 + 7) s20
      else
        some (0, s20)) else none else none) else none else none
    else
    if ((xs (ix l3)) &&& 15) = 14 then
      if inb (l3 + 1) L0 = true then
      bnd (f_FU_left (xs (ix (l3 + 1))) s) (fun v21 s21 =>
      if inb (l3 + 1) L0 = true then
      bnd (f_Mod_left (xs (ix (l3 + 1))) s21) (fun v22 s22 =>
      if v21 = v22 then
        rec18 (l3 + 7) s22
      else
        some (0, s22)) else none) else none
    else
    rec18 (l3 + 7) s else none) 4096
def f_Law_law (L0 : Nat) (xs : Nat → Int32) (s : Sg) : Ro :=
  f_Law_law_18 L0 xs 0 s
end
