section
-- ===== PART A: goes FIRST, ahead of the names: the tables' words, and 'selects' of the private methods out of them =====
/-- a private method of a class that the tables say can be made, by its rows of tables_1 -/
def lw_okq (q : MethodName × Nat) : Prop := (q.1.cls ≠ "java/lang/invoke/MethodHandle" ∧ q.1.cls ≠ "java/lang/invoke/VarHandle") ∧ Cond.instantiable q.1.cls q.2 ∈ tables_1 ∧ Cond.privateMethod q.1 ∈ tables_1 ∧ Cond.instanceMethod q.1 ∈ tables_1
theorem lw_p0 : lw_okq (⟨"FeatureUnions$Closure", "bringThere", "(III)V"⟩, 4) := ⟨⟨by decide +kernel, by decide +kernel⟩, List.mem_of_getElem? (i := 213) (by decide +kernel), List.mem_of_getElem? (i := 368) (by decide +kernel), List.mem_of_getElem? (i := 369) (by decide +kernel)⟩
theorem lw_p1 : lw_okq (⟨"FeatureUnions$Closure", "bring", "(II)V"⟩, 4) := ⟨⟨by decide +kernel, by decide +kernel⟩, List.mem_of_getElem? (i := 213) (by decide +kernel), List.mem_of_getElem? (i := 372) (by decide +kernel), List.mem_of_getElem? (i := 373) (by decide +kernel)⟩
theorem lw_p2 : lw_okq (⟨"FeatureUnions$Closure", "follow", "(I)V"⟩, 4) := ⟨⟨by decide +kernel, by decide +kernel⟩, List.mem_of_getElem? (i := 213) (by decide +kernel), List.mem_of_getElem? (i := 376) (by decide +kernel), List.mem_of_getElem? (i := 377) (by decide +kernel)⟩
theorem lw_p3 : lw_okq (⟨"FeatureUnions$Closure", "followThere", "(III)V"⟩, 4) := ⟨⟨by decide +kernel, by decide +kernel⟩, List.mem_of_getElem? (i := 213) (by decide +kernel), List.mem_of_getElem? (i := 380) (by decide +kernel), List.mem_of_getElem? (i := 381) (by decide +kernel)⟩
theorem lw_p4 : lw_okq (⟨"FeatureUnions$Closure", "bringLive", "(III)V"⟩, 4) := ⟨⟨by decide +kernel, by decide +kernel⟩, List.mem_of_getElem? (i := 213) (by decide +kernel), List.mem_of_getElem? (i := 384) (by decide +kernel), List.mem_of_getElem? (i := 385) (by decide +kernel)⟩
theorem lw_p5 : lw_okq (⟨"FeatureUnions$Closure", "bringOn", "(III)V"⟩, 4) := ⟨⟨by decide +kernel, by decide +kernel⟩, List.mem_of_getElem? (i := 213) (by decide +kernel), List.mem_of_getElem? (i := 404) (by decide +kernel), List.mem_of_getElem? (i := 405) (by decide +kernel)⟩
theorem lw_p6 : lw_okq (⟨"FeatureUnions$Closure", "followLive", "(III)V"⟩, 4) := ⟨⟨by decide +kernel, by decide +kernel⟩, List.mem_of_getElem? (i := 213) (by decide +kernel), List.mem_of_getElem? (i := 408) (by decide +kernel), List.mem_of_getElem? (i := 409) (by decide +kernel)⟩
theorem lw_p7 : lw_okq (⟨"FeatureUnions$Closure", "followOn", "(III)V"⟩, 4) := ⟨⟨by decide +kernel, by decide +kernel⟩, List.mem_of_getElem? (i := 213) (by decide +kernel), List.mem_of_getElem? (i := 424) (by decide +kernel), List.mem_of_getElem? (i := 425) (by decide +kernel)⟩
theorem lw_p8 : lw_okq (⟨"FeatureUnions$Closure", "followTurn", "(III)V"⟩, 4) := ⟨⟨by decide +kernel, by decide +kernel⟩, List.mem_of_getElem? (i := 213) (by decide +kernel), List.mem_of_getElem? (i := 432) (by decide +kernel), List.mem_of_getElem? (i := 433) (by decide +kernel)⟩
theorem lw_p9 : lw_okq (⟨"FeatureUnions$Reasons", "holds", "(III)Z"⟩, 2) := ⟨⟨by decide +kernel, by decide +kernel⟩, List.mem_of_getElem? (i := 232) (by decide +kernel), List.mem_of_getElem? (i := 468) (by decide +kernel), List.mem_of_getElem? (i := 469) (by decide +kernel)⟩
theorem lw_p10 : lw_okq (⟨"FeatureUnions$Reasons", "isByRoot", "(III)Z"⟩, 2) := ⟨⟨by decide +kernel, by decide +kernel⟩, List.mem_of_getElem? (i := 232) (by decide +kernel), List.mem_of_getElem? (i := 472) (by decide +kernel), List.mem_of_getElem? (i := 473) (by decide +kernel)⟩
theorem lw_p11 : lw_okq (⟨"FeatureUnions$Reasons", "isByUser", "(IIII)Z"⟩, 2) := ⟨⟨by decide +kernel, by decide +kernel⟩, List.mem_of_getElem? (i := 232) (by decide +kernel), List.mem_of_getElem? (i := 478) (by decide +kernel), List.mem_of_getElem? (i := 479) (by decide +kernel)⟩
theorem lw_p12 : lw_okq (⟨"FeatureUnions$Reasons", "isByTurn", "(IIII)Z"⟩, 2) := ⟨⟨by decide +kernel, by decide +kernel⟩, List.mem_of_getElem? (i := 232) (by decide +kernel), List.mem_of_getElem? (i := 486) (by decide +kernel), List.mem_of_getElem? (i := 487) (by decide +kernel)⟩
theorem lw_p13 : lw_okq (⟨"FeatureUnions$Reasons", "isByOtherSide", "(III)Z"⟩, 2) := ⟨⟨by decide +kernel, by decide +kernel⟩, List.mem_of_getElem? (i := 232) (by decide +kernel), List.mem_of_getElem? (i := 492) (by decide +kernel), List.mem_of_getElem? (i := 493) (by decide +kernel)⟩
theorem lw_p14 : lw_okq (⟨"FeatureUnions", "noteLeavers", "()V"⟩, 11) := ⟨⟨by decide +kernel, by decide +kernel⟩, List.mem_of_getElem? (i := 12) (by decide +kernel), List.mem_of_getElem? (i := 516) (by decide +kernel), List.mem_of_getElem? (i := 517) (by decide +kernel)⟩
theorem lw_p15 : lw_okq (⟨"FeatureUnionsModel", "isPack", "(I)Z"⟩, 46) := ⟨⟨by decide +kernel, by decide +kernel⟩, List.mem_of_getElem? (i := 524) (by decide +kernel), List.mem_of_getElem? (i := 677) (by decide +kernel), List.mem_of_getElem? (i := 678) (by decide +kernel)⟩
def lw_privs_1 : List (MethodName × Nat) := [(⟨"FeatureUnions$Closure", "bringThere", "(III)V"⟩, 4), (⟨"FeatureUnions$Closure", "bring", "(II)V"⟩, 4), (⟨"FeatureUnions$Closure", "follow", "(I)V"⟩, 4), (⟨"FeatureUnions$Closure", "followThere", "(III)V"⟩, 4), (⟨"FeatureUnions$Closure", "bringLive", "(III)V"⟩, 4), (⟨"FeatureUnions$Closure", "bringOn", "(III)V"⟩, 4), (⟨"FeatureUnions$Closure", "followLive", "(III)V"⟩, 4), (⟨"FeatureUnions$Closure", "followOn", "(III)V"⟩, 4), (⟨"FeatureUnions$Closure", "followTurn", "(III)V"⟩, 4), (⟨"FeatureUnions$Reasons", "holds", "(III)Z"⟩, 2), (⟨"FeatureUnions$Reasons", "isByRoot", "(III)Z"⟩, 2), (⟨"FeatureUnions$Reasons", "isByUser", "(IIII)Z"⟩, 2), (⟨"FeatureUnions$Reasons", "isByTurn", "(IIII)Z"⟩, 2), (⟨"FeatureUnions$Reasons", "isByOtherSide", "(III)Z"⟩, 2), (⟨"FeatureUnions", "noteLeavers", "()V"⟩, 11), (⟨"FeatureUnionsModel", "isPack", "(I)Z"⟩, 46)]
theorem lw_r1 : ∀ q ∈ lw_privs_1, lw_okq q := List.forall_mem_cons.mpr ⟨lw_p0, List.forall_mem_cons.mpr ⟨lw_p1, List.forall_mem_cons.mpr ⟨lw_p2, List.forall_mem_cons.mpr ⟨lw_p3, List.forall_mem_cons.mpr ⟨lw_p4, List.forall_mem_cons.mpr ⟨lw_p5, List.forall_mem_cons.mpr ⟨lw_p6, List.forall_mem_cons.mpr ⟨lw_p7, List.forall_mem_cons.mpr ⟨lw_p8, List.forall_mem_cons.mpr ⟨lw_p9, List.forall_mem_cons.mpr ⟨lw_p10, List.forall_mem_cons.mpr ⟨lw_p11, List.forall_mem_cons.mpr ⟨lw_p12, List.forall_mem_cons.mpr ⟨lw_p13, List.forall_mem_cons.mpr ⟨lw_p14, List.forall_mem_cons.mpr ⟨lw_p15, fun _ h => absurd h List.not_mem_nil⟩⟩⟩⟩⟩⟩⟩⟩⟩⟩⟩⟩⟩⟩⟩⟩
theorem lw_p16 : lw_okq (⟨"FeatureUnionsModel", "many", "(I)I"⟩, 46) := ⟨⟨by decide +kernel, by decide +kernel⟩, List.mem_of_getElem? (i := 524) (by decide +kernel), List.mem_of_getElem? (i := 681) (by decide +kernel), List.mem_of_getElem? (i := 682) (by decide +kernel)⟩
theorem lw_p17 : lw_okq (⟨"FeatureUnionsModel", "named", "(II)I"⟩, 46) := ⟨⟨by decide +kernel, by decide +kernel⟩, List.mem_of_getElem? (i := 524) (by decide +kernel), List.mem_of_getElem? (i := 685) (by decide +kernel), List.mem_of_getElem? (i := 686) (by decide +kernel)⟩
theorem lw_p18 : lw_okq (⟨"FeatureUnionsModel", "isUser", "(I)Z"⟩, 46) := ⟨⟨by decide +kernel, by decide +kernel⟩, List.mem_of_getElem? (i := 524) (by decide +kernel), List.mem_of_getElem? (i := 701) (by decide +kernel), List.mem_of_getElem? (i := 702) (by decide +kernel)⟩
theorem lw_p19 : lw_okq (⟨"FeatureUnionsModel", "asking", "(III)I"⟩, 46) := ⟨⟨by decide +kernel, by decide +kernel⟩, List.mem_of_getElem? (i := 524) (by decide +kernel), List.mem_of_getElem? (i := 705) (by decide +kernel), List.mem_of_getElem? (i := 706) (by decide +kernel)⟩
theorem lw_p20 : lw_okq (⟨"FeatureUnionsModel", "isFeature", "(I)Z"⟩, 46) := ⟨⟨by decide +kernel, by decide +kernel⟩, List.mem_of_getElem? (i := 524) (by decide +kernel), List.mem_of_getElem? (i := 713) (by decide +kernel), List.mem_of_getElem? (i := 714) (by decide +kernel)⟩
theorem lw_p21 : lw_okq (⟨"FeatureUnionsModel", "close", "()I"⟩, 46) := ⟨⟨by decide +kernel, by decide +kernel⟩, List.mem_of_getElem? (i := 524) (by decide +kernel), List.mem_of_getElem? (i := 721) (by decide +kernel), List.mem_of_getElem? (i := 722) (by decide +kernel)⟩
theorem lw_p22 : lw_okq (⟨"FeatureUnionsModel", "comesThere", "(III)Z"⟩, 46) := ⟨⟨by decide +kernel, by decide +kernel⟩, List.mem_of_getElem? (i := 524) (by decide +kernel), List.mem_of_getElem? (i := 725) (by decide +kernel), List.mem_of_getElem? (i := 726) (by decide +kernel)⟩
theorem lw_p23 : lw_okq (⟨"FeatureUnionsModel", "isFor", "(I)Z"⟩, 46) := ⟨⟨by decide +kernel, by decide +kernel⟩, List.mem_of_getElem? (i := 524) (by decide +kernel), List.mem_of_getElem? (i := 729) (by decide +kernel), List.mem_of_getElem? (i := 730) (by decide +kernel)⟩
theorem lw_p24 : lw_okq (⟨"FeatureUnionsModel", "farSide", "(II)I"⟩, 46) := ⟨⟨by decide +kernel, by decide +kernel⟩, List.mem_of_getElem? (i := 524) (by decide +kernel), List.mem_of_getElem? (i := 733) (by decide +kernel), List.mem_of_getElem? (i := 734) (by decide +kernel)⟩
theorem lw_p25 : lw_okq (⟨"FeatureUnionsModel", "comesLive", "(III)Z"⟩, 46) := ⟨⟨by decide +kernel, by decide +kernel⟩, List.mem_of_getElem? (i := 524) (by decide +kernel), List.mem_of_getElem? (i := 740) (by decide +kernel), List.mem_of_getElem? (i := 741) (by decide +kernel)⟩
theorem lw_p26 : lw_okq (⟨"FeatureUnionsModel", "comesOn", "(III)Z"⟩, 46) := ⟨⟨by decide +kernel, by decide +kernel⟩, List.mem_of_getElem? (i := 524) (by decide +kernel), List.mem_of_getElem? (i := 744) (by decide +kernel), List.mem_of_getElem? (i := 745) (by decide +kernel)⟩
theorem lw_p27 : lw_okq (⟨"FeatureUnionsModel", "gather", "(III)V"⟩, 46) := ⟨⟨by decide +kernel, by decide +kernel⟩, List.mem_of_getElem? (i := 524) (by decide +kernel), List.mem_of_getElem? (i := 748) (by decide +kernel), List.mem_of_getElem? (i := 749) (by decide +kernel)⟩
theorem lw_p28 : lw_okq (⟨"FeatureUnionsModel", "tell", "(II)V"⟩, 46) := ⟨⟨by decide +kernel, by decide +kernel⟩, List.mem_of_getElem? (i := 524) (by decide +kernel), List.mem_of_getElem? (i := 752) (by decide +kernel), List.mem_of_getElem? (i := 753) (by decide +kernel)⟩
theorem lw_p29 : lw_okq (⟨"FeatureUnionsModel", "turnsOn", "(IIIIII)Z"⟩, 46) := ⟨⟨by decide +kernel, by decide +kernel⟩, List.mem_of_getElem? (i := 524) (by decide +kernel), List.mem_of_getElem? (i := 756) (by decide +kernel), List.mem_of_getElem? (i := 757) (by decide +kernel)⟩
theorem lw_p30 : lw_okq (⟨"FeatureUnionsModel", "reasoned", "(II)Z"⟩, 46) := ⟨⟨by decide +kernel, by decide +kernel⟩, List.mem_of_getElem? (i := 524) (by decide +kernel), List.mem_of_getElem? (i := 779) (by decide +kernel), List.mem_of_getElem? (i := 780) (by decide +kernel)⟩
def lw_privs_2 : List (MethodName × Nat) := [(⟨"FeatureUnionsModel", "many", "(I)I"⟩, 46), (⟨"FeatureUnionsModel", "named", "(II)I"⟩, 46), (⟨"FeatureUnionsModel", "isUser", "(I)Z"⟩, 46), (⟨"FeatureUnionsModel", "asking", "(III)I"⟩, 46), (⟨"FeatureUnionsModel", "isFeature", "(I)Z"⟩, 46), (⟨"FeatureUnionsModel", "close", "()I"⟩, 46), (⟨"FeatureUnionsModel", "comesThere", "(III)Z"⟩, 46), (⟨"FeatureUnionsModel", "isFor", "(I)Z"⟩, 46), (⟨"FeatureUnionsModel", "farSide", "(II)I"⟩, 46), (⟨"FeatureUnionsModel", "comesLive", "(III)Z"⟩, 46), (⟨"FeatureUnionsModel", "comesOn", "(III)Z"⟩, 46), (⟨"FeatureUnionsModel", "gather", "(III)V"⟩, 46), (⟨"FeatureUnionsModel", "tell", "(II)V"⟩, 46), (⟨"FeatureUnionsModel", "turnsOn", "(IIIIII)Z"⟩, 46), (⟨"FeatureUnionsModel", "reasoned", "(II)Z"⟩, 46)]
theorem lw_r2 : ∀ q ∈ lw_privs_2, lw_okq q := List.forall_mem_cons.mpr ⟨lw_p16, List.forall_mem_cons.mpr ⟨lw_p17, List.forall_mem_cons.mpr ⟨lw_p18, List.forall_mem_cons.mpr ⟨lw_p19, List.forall_mem_cons.mpr ⟨lw_p20, List.forall_mem_cons.mpr ⟨lw_p21, List.forall_mem_cons.mpr ⟨lw_p22, List.forall_mem_cons.mpr ⟨lw_p23, List.forall_mem_cons.mpr ⟨lw_p24, List.forall_mem_cons.mpr ⟨lw_p25, List.forall_mem_cons.mpr ⟨lw_p26, List.forall_mem_cons.mpr ⟨lw_p27, List.forall_mem_cons.mpr ⟨lw_p28, List.forall_mem_cons.mpr ⟨lw_p29, List.forall_mem_cons.mpr ⟨lw_p30, fun _ h => absurd h List.not_mem_nil⟩⟩⟩⟩⟩⟩⟩⟩⟩⟩⟩⟩⟩⟩⟩
def lw_privs : List (MethodName × Nat) := lw_privs_1 ++ (lw_privs_2)
def lw_tbl : List Cond := k2_sels lw_privs ++ tables_1
theorem lw_privs_ok : ∀ q ∈ lw_privs, lw_okq q := by
  show ∀ q ∈ lw_privs_1 ++ (lw_privs_2), lw_okq q
  exact List.forall_mem_append.mpr ⟨lw_r1, lw_r2⟩
end
section
def R_FU : String := "FeatureUnions"
def F_FU : u_T := fun k => match k with
  | 0 => ("FeatureUnions", "packs", "LFeatureUnions$Packs;", true)
  | 1 => ("FeatureUnions", "features", "LFeatureUnions$Features;", true)
  | 2 => ("FeatureUnions", "users", "LFeatureUnions$Users;", true)
  | 3 => ("FeatureUnions", "turns", "LFeatureUnions$Turns;", true)
  | 4 => ("FeatureUnions", "snapshot", "LFeatureUnions$Snapshot;", true)
  | 5 => ("FeatureUnions", "latest", "LFeatureUnions$Closure;", true)
  | 6 => ("FeatureUnions", "trial", "LFeatureUnions$Closure;", true)
  | 7 => ("FeatureUnions", "grounds", "LFeatureUnions$Reasons;", true)
  | 8 => ("FeatureUnions", "leavers", "[I", true)
  | 9 => ("FeatureUnions", "leaverCount", "I", false)
  | _ => ("FeatureUnions", "current", "Z", false)
def ty_FU : Nat → FieldType := fun k => match k with
  | 0 => .object "FeatureUnions$Packs"
  | 1 => .object "FeatureUnions$Features"
  | 2 => .object "FeatureUnions$Users"
  | 3 => .object "FeatureUnions$Turns"
  | 4 => .object "FeatureUnions$Snapshot"
  | 5 => .object "FeatureUnions$Closure"
  | 6 => .object "FeatureUnions$Closure"
  | 7 => .object "FeatureUnions$Reasons"
  | 8 => .array .int
  | 9 => .int
  | _ => .boolean
def R_Packs : String := "FeatureUnions$Packs"
def F_Packs : u_T := fun k => match k with
  | 0 => ("FeatureUnions$Packs", "count", "I", false)
  | 1 => ("FeatureUnions$Packs", "roots", "I", false)
  | 2 => ("FeatureUnions$Packs", "rootsWithDefaults", "I", false)
  | _ => ("FeatureUnions$Packs", "apart", "[Z", true)
def ty_Packs : Nat → FieldType := fun k => match k with
  | 0 => .int
  | 1 => .int
  | 2 => .int
  | _ => .array .boolean
def R_Feats : String := "FeatureUnions$Features"
def F_Feats : u_T := fun k => match k with
  | 0 => ("FeatureUnions$Features", "count", "I", false)
  | 1 => ("FeatureUnions$Features", "pack", "[I", true)
  | 2 => ("FeatureUnions$Features", "name", "[I", true)
  | 3 => ("FeatureUnions$Features", "group", "[I", true)
  | _ => ("FeatureUnions$Features", "byDefault", "[Z", true)
def ty_Feats : Nat → FieldType := fun k => match k with
  | 0 => .int
  | 1 => .array .int
  | 2 => .array .int
  | 3 => .array .int
  | _ => .array .boolean
def R_Users : String := "FeatureUnions$Users"
def F_Users : u_T := fun k => match k with
  | 0 => ("FeatureUnions$Users", "count", "I", false)
  | 1 => ("FeatureUnions$Users", "from", "[I", true)
  | 2 => ("FeatureUnions$Users", "to", "[I", true)
  | 3 => ("FeatureUnions$Users", "platforms", "[I", true)
  | 4 => ("FeatureUnions$Users", "asked", "[I", true)
  | 5 => ("FeatureUnions$Users", "defaults", "[Z", true)
  | 6 => ("FeatureUnions$Users", "build", "[Z", true)
  | _ => ("FeatureUnions$Users", "optional", "[Z", true)
def ty_Users : Nat → FieldType := fun k => match k with
  | 0 => .int
  | 1 => .array .int
  | 2 => .array .int
  | 3 => .array .int
  | 4 => .array .int
  | 5 => .array .boolean
  | 6 => .array .boolean
  | _ => .array .boolean
def R_Turns : String := "FeatureUnions$Turns"
def F_Turns : u_T := fun k => match k with
  | 0 => ("FeatureUnions$Turns", "count", "I", false)
  | 1 => ("FeatureUnions$Turns", "feature", "[I", true)
  | 2 => ("FeatureUnions$Turns", "kind", "[I", true)
  | 3 => ("FeatureUnions$Turns", "user", "[I", true)
  | _ => ("FeatureUnions$Turns", "target", "[I", true)
def ty_Turns : Nat → FieldType := fun k => match k with
  | 0 => .int
  | 1 => .array .int
  | 2 => .array .int
  | 3 => .array .int
  | _ => .array .int
def R_Snap : String := "FeatureUnions$Snapshot"
def F_Snap : u_T := fun k => match k with
  | 0 => ("FeatureUnions$Snapshot", "packs", "LFeatureUnions$Packs;", true)
  | 1 => ("FeatureUnions$Snapshot", "features", "LFeatureUnions$Features;", true)
  | 2 => ("FeatureUnions$Snapshot", "users", "LFeatureUnions$Users;", true)
  | 3 => ("FeatureUnions$Snapshot", "turns", "LFeatureUnions$Turns;", true)
  | 4 => ("FeatureUnions$Snapshot", "platform", "I", false)
  | 5 => ("FeatureUnions$Snapshot", "roots", "I", false)
  | 6 => ("FeatureUnions$Snapshot", "rootsWithDefaults", "I", false)
  | 7 => ("FeatureUnions$Snapshot", "packCount", "I", false)
  | 8 => ("FeatureUnions$Snapshot", "featureCount", "I", false)
  | 9 => ("FeatureUnions$Snapshot", "userCount", "I", false)
  | 10 => ("FeatureUnions$Snapshot", "turnCount", "I", false)
  | _ => ("FeatureUnions$Snapshot", "asked", "[I", true)
def ty_Snap : Nat → FieldType := fun k => match k with
  | 0 => .object "FeatureUnions$Packs"
  | 1 => .object "FeatureUnions$Features"
  | 2 => .object "FeatureUnions$Users"
  | 3 => .object "FeatureUnions$Turns"
  | 4 => .int
  | 5 => .int
  | 6 => .int
  | 7 => .int
  | 8 => .int
  | 9 => .int
  | 10 => .int
  | _ => .array .int
def R_Clo : String := "FeatureUnions$Closure"
def F_Clo : u_T := fun k => match k with
  | 0 => ("FeatureUnions$Closure", "seen", "LFeatureUnions$Snapshot;", true)
  | 1 => ("FeatureUnions$Closure", "stage", "[I", true)
  | 2 => ("FeatureUnions$Closure", "queue", "[I", true)
  | _ => ("FeatureUnions$Closure", "queued", "I", false)
def ty_Clo : Nat → FieldType := fun k => match k with
  | 0 => .object "FeatureUnions$Snapshot"
  | 1 => .array .int
  | 2 => .array .int
  | _ => .int
def R_Reas : String := "FeatureUnions$Reasons"
def F_Reas : u_T := fun k => match k with
  | 0 => ("FeatureUnions$Reasons", "seen", "LFeatureUnions$Snapshot;", true)
  | _ => ("FeatureUnions$Reasons", "closure", "LFeatureUnions$Closure;", true)
def ty_Reas : Nat → FieldType := fun k => match k with
  | 0 => .object "FeatureUnions$Snapshot"
  | _ => .object "FeatureUnions$Closure"
def R_Mod : String := "FeatureUnionsModel"
def F_Mod : u_T := fun k => match k with
  | 0 => ("FeatureUnionsModel", "code", "I", false)
  | 1 => ("FeatureUnionsModel", "packs", "I", false)
  | 2 => ("FeatureUnionsModel", "features", "I", false)
  | 3 => ("FeatureUnionsModel", "users", "I", false)
  | 4 => ("FeatureUnionsModel", "asks", "I", false)
  | 5 => ("FeatureUnionsModel", "rows", "I", false)
  | 6 => ("FeatureUnionsModel", "apart", "[Z", true)
  | 7 => ("FeatureUnionsModel", "root", "[Z", true)
  | 8 => ("FeatureUnionsModel", "rootDefaults", "[Z", true)
  | 9 => ("FeatureUnionsModel", "featurePack", "[I", true)
  | 10 => ("FeatureUnionsModel", "featureName", "[I", true)
  | 11 => ("FeatureUnionsModel", "featureGroup", "[I", true)
  | 12 => ("FeatureUnionsModel", "byDefault", "[Z", true)
  | 13 => ("FeatureUnionsModel", "from", "[I", true)
  | 14 => ("FeatureUnionsModel", "to", "[I", true)
  | 15 => ("FeatureUnionsModel", "platforms", "[I", true)
  | 16 => ("FeatureUnionsModel", "defaults", "[Z", true)
  | 17 => ("FeatureUnionsModel", "build", "[Z", true)
  | 18 => ("FeatureUnionsModel", "optional", "[Z", true)
  | 19 => ("FeatureUnionsModel", "askUser", "[I", true)
  | 20 => ("FeatureUnionsModel", "askFeature", "[I", true)
  | 21 => ("FeatureUnionsModel", "rowFeature", "[I", true)
  | 22 => ("FeatureUnionsModel", "rowKind", "[I", true)
  | 23 => ("FeatureUnionsModel", "rowUser", "[I", true)
  | 24 => ("FeatureUnionsModel", "rowOther", "[I", true)
  | 25 => ("FeatureUnionsModel", "thenPacks", "I", false)
  | 26 => ("FeatureUnionsModel", "thenFeatures", "I", false)
  | 27 => ("FeatureUnionsModel", "thenUsers", "I", false)
  | 28 => ("FeatureUnionsModel", "thenAsks", "I", false)
  | 29 => ("FeatureUnionsModel", "thenRows", "I", false)
  | 30 => ("FeatureUnionsModel", "platform", "I", false)
  | 31 => ("FeatureUnionsModel", "thenRoot", "[Z", true)
  | 32 => ("FeatureUnionsModel", "ran", "Z", false)
  | 33 => ("FeatureUnionsModel", "since", "Z", false)
  | 34 => ("FeatureUnionsModel", "there", "[I", true)
  | 35 => ("FeatureUnionsModel", "live", "[I", true)
  | 36 => ("FeatureUnionsModel", "on", "[I", true)
  | 37 => ("FeatureUnionsModel", "ranThere", "[I", true)
  | 38 => ("FeatureUnionsModel", "ranLive", "[I", true)
  | 39 => ("FeatureUnionsModel", "ranOn", "[I", true)
  | 40 => ("FeatureUnionsModel", "out", "I", false)
  | 41 => ("FeatureUnionsModel", "left", "[I", true)
  | 42 => ("FeatureUnionsModel", "lefts", "I", false)
  | 43 => ("FeatureUnionsModel", "reasonKind", "[I", true)
  | 44 => ("FeatureUnionsModel", "reasonNumber", "[I", true)
  | _ => ("FeatureUnionsModel", "reasonMany", "I", false)
def ty_Mod : Nat → FieldType := fun k => match k with
  | 0 => .int
  | 1 => .int
  | 2 => .int
  | 3 => .int
  | 4 => .int
  | 5 => .int
  | 6 => .array .boolean
  | 7 => .array .boolean
  | 8 => .array .boolean
  | 9 => .array .int
  | 10 => .array .int
  | 11 => .array .int
  | 12 => .array .boolean
  | 13 => .array .int
  | 14 => .array .int
  | 15 => .array .int
  | 16 => .array .boolean
  | 17 => .array .boolean
  | 18 => .array .boolean
  | 19 => .array .int
  | 20 => .array .int
  | 21 => .array .int
  | 22 => .array .int
  | 23 => .array .int
  | 24 => .array .int
  | 25 => .int
  | 26 => .int
  | 27 => .int
  | 28 => .int
  | 29 => .int
  | 30 => .int
  | 31 => .array .boolean
  | 32 => .boolean
  | 33 => .boolean
  | 34 => .array .int
  | 35 => .array .int
  | 36 => .array .int
  | 37 => .array .int
  | 38 => .array .int
  | 39 => .array .int
  | 40 => .int
  | 41 => .array .int
  | 42 => .int
  | 43 => .array .int
  | 44 => .array .int
  | _ => .int
abbrev vwCl : List vw_C := [(R_FU, F_FU, 11), (R_Packs, F_Packs, 4), (R_Feats, F_Feats, 5), (R_Users, F_Users, 8), (R_Turns, F_Turns, 5), (R_Snap, F_Snap, 12), (R_Clo, F_Clo, 4), (R_Reas, F_Reas, 2), (R_Mod, F_Mod, 46)]
theorem nm_FU : ∀ a, a < 11 → ∀ b, b < 11 → a ≠ b → (F_FU a).2.1 ≠ (F_FU b).2.1 := by decide +kernel
theorem to_FU : ∀ k, k < 11 → parseFieldDescriptor (F_FU k).2.2.1 = some (ty_FU k) := by decide +kernel
theorem nm_Packs : ∀ a, a < 4 → ∀ b, b < 4 → a ≠ b → (F_Packs a).2.1 ≠ (F_Packs b).2.1 := by decide +kernel
theorem to_Packs : ∀ k, k < 4 → parseFieldDescriptor (F_Packs k).2.2.1 = some (ty_Packs k) := by decide +kernel
theorem nm_Feats : ∀ a, a < 5 → ∀ b, b < 5 → a ≠ b → (F_Feats a).2.1 ≠ (F_Feats b).2.1 := by decide +kernel
theorem to_Feats : ∀ k, k < 5 → parseFieldDescriptor (F_Feats k).2.2.1 = some (ty_Feats k) := by decide +kernel
theorem nm_Users : ∀ a, a < 8 → ∀ b, b < 8 → a ≠ b → (F_Users a).2.1 ≠ (F_Users b).2.1 := by decide +kernel
theorem to_Users : ∀ k, k < 8 → parseFieldDescriptor (F_Users k).2.2.1 = some (ty_Users k) := by decide +kernel
theorem nm_Turns : ∀ a, a < 5 → ∀ b, b < 5 → a ≠ b → (F_Turns a).2.1 ≠ (F_Turns b).2.1 := by decide +kernel
theorem to_Turns : ∀ k, k < 5 → parseFieldDescriptor (F_Turns k).2.2.1 = some (ty_Turns k) := by decide +kernel
theorem nm_Snap : ∀ a, a < 12 → ∀ b, b < 12 → a ≠ b → (F_Snap a).2.1 ≠ (F_Snap b).2.1 := by decide +kernel
theorem to_Snap : ∀ k, k < 12 → parseFieldDescriptor (F_Snap k).2.2.1 = some (ty_Snap k) := by decide +kernel
theorem nm_Clo : ∀ a, a < 4 → ∀ b, b < 4 → a ≠ b → (F_Clo a).2.1 ≠ (F_Clo b).2.1 := by decide +kernel
theorem to_Clo : ∀ k, k < 4 → parseFieldDescriptor (F_Clo k).2.2.1 = some (ty_Clo k) := by decide +kernel
theorem nm_Reas : ∀ a, a < 2 → ∀ b, b < 2 → a ≠ b → (F_Reas a).2.1 ≠ (F_Reas b).2.1 := by decide +kernel
theorem to_Reas : ∀ k, k < 2 → parseFieldDescriptor (F_Reas k).2.2.1 = some (ty_Reas k) := by decide +kernel
theorem nm_Mod : ∀ a, a < 46 → ∀ b, b < 46 → a ≠ b → (F_Mod a).2.1 ≠ (F_Mod b).2.1 := by decide +kernel
theorem to_Mod : ∀ k, k < 46 → parseFieldDescriptor (F_Mod k).2.2.1 = some (ty_Mod k) := by decide +kernel
end
section
/-! the worlds of all methods in one form: values and cells by number -/
abbrev AV : Type := Int32 ⊕ (Bool ⊕ Nat)
abbrev vi (x : Int32) : AV := Sum.inl x
abbrev vr (i : Nat) : AV := Sum.inr (Sum.inr i)
abbrev vn : AV := Sum.inr (Sum.inl false)
abbrev vs : AV := Sum.inr (Sum.inl true)
def cv (b : Nat) (ad : Nat → Nat) : AV → Value
  | .inl x => .int x
  | .inr (.inl false) => .null
  | .inr (.inl true) => .ref b
  | .inr (.inr i) => .ref (ad i)
abbrev AC : Type := (FieldType × Nat × (Nat → Int32)) ⊕ (Nat × List AV)
abbrev ai (ty : FieldType) (n : Nat) (f : Nat → Int32) : AC := Sum.inl (ty, n, f)
abbrev ao (ci : Nat) (fs : List AV) : AC := Sum.inr (ci, fs)
abbrev MI : Type := MethodName × ByteArray × Nat × Option FieldType × Room
abbrev my (q : MI) : MethodName := q.1
abbrev mb (q : MI) : ByteArray := q.2.1
abbrev ml (q : MI) : Nat := q.2.2.1
abbrev mr (q : MI) : Option FieldType := q.2.2.2.1
abbrev mR (q : MI) : Room := q.2.2.2.2
/-- the words that every method has: all good ones of the tables -/
def Wt : List Cond := lw_tbl.filter goodWord
theorem Wt_good {w : Cond} (h : w ∈ Wt) : (w.onTables && w.keeps) = true ∨ ∃ ty, w = .arrayClass ty := good_of_word (List.mem_filter.mp h).2
theorem Wt_in {w : Cond} (h : w ∈ Wt) : w ∈ lw_tbl := (List.mem_filter.mp h).1
def Ww (q : MI) : List Cond := .code (my q) (mb q) (ml q) (mr q) :: Wt
theorem Ww_good {q : MI} (h : Cond.code (my q) (mb q) (ml q) (mr q) ∈ Wt) : GoodIn Wt (Ww q) := by
  intro w hw
  rcases List.mem_cons.mp hw with rfl | hw
  · exact ⟨h, Wt_good h⟩
  · exact ⟨hw, Wt_good hw⟩
/-- the links between nest mates: these hold at every start -/
def isNest : Cond → Bool
  | .methodLinkNest _ _ _ _ => true
  | _ => false
def Wn : List Cond := tables_1.filter isNest
def NN (U : State) : Prop := ∀ w ∈ Wn, va_Nw w U
theorem Wn_on {w : Cond} (h : w ∈ Wn) : w.onTables = true := by
  have h1 := (List.mem_filter.mp h).2
  cases w <;> first | rfl | simp [isNest] at h1
theorem NN.warm {s U : State} (hW : s.WarmedH U.vm) (h : NN s) : NN U := fun w hw => by
  have h1 := (List.mem_filter.mp hw).2
  have h2 := h w hw
  cases w <;> first | exact va_Nw.warmM hW h2 | simp [isNest] at h1
theorem NN.same {s U : State} (e : s.vm = U.vm) (h : NN s) : NN U := fun w hw => va_Nw.same (Wn_on hw) e (h w hw)
theorem cv_cat (b : Nat) (ad : Nat → Nat) (v : AV) : (cv b ad v).category = 1 := by
  rcases v with x | (_ | _) | i <;> rfl
/-- the heap's cells, by number -/
def hc1 (b : Nat) (ad : Nat → Nat) (ws : va_W) (tys : List (ClassId × FieldType)) (i : Nat) (c : AC) : Prop := match c with
  | .inl (ty, n, f) => ∃ (cA : ClassId) (t0 : Nat), ws[i]? = some (ad i, .inl (cA, n, .inl f)) ∧ tys[t0]? = some (cA, ty)
  | .inr (ci, fs) => ws[i]? = some (ad i, .inr (ci, fs.map (cv b ad)))
def hm (b : Nat) (ad : Nat → Nat) (h : List AC) (ws : va_W) (tys : List (ClassId × FieldType)) : Prop :=
  ws.length = h.length ∧ ∀ (i : Nat) (c : AC), h[i]? = some c → hc1 b ad ws tys i c
/-- the locals -/
def lm (b : Nat) (ad : Nat → Nat) (nL : Nat) (ρ : List (Option AV)) (ls : Array Slot) : Prop :=
  ls.size = nL ∧ lv_wf ls ∧ ∀ (i : Nat) (v : AV), ρ[i]? = some (some v) → ls[i]? = some (.val (cv b ad v))
def lvl (b : Nat) (ad : Nat → Nat) : Nat → List (Option AV) → List (Nat × Value)
  | _, [] => []
  | n, none :: r => lvl b ad (n + 1) r
  | n, some v :: r => (n, cv b ad v) :: lvl b ad (n + 1) r
theorem lvl_mem (b : Nat) (ad : Nat → Nat) : ∀ (ρ : List (Option AV)) (n : Nat) (q : Nat × Value), q ∈ lvl b ad n ρ ↔ ∃ (i : Nat) (v : AV), ρ[i]? = some (some v) ∧ q = (n + i, cv b ad v)
  | [], n, q => by simp [lvl]
  | none :: r, n, q => by
    rw [lvl, lvl_mem b ad r (n + 1) q]
    constructor
    · rintro ⟨i, v, h1, rfl⟩
      exact ⟨i + 1, v, by simpa using h1, by rw [show n + 1 + i = n + (i + 1) by omega]⟩
    · rintro ⟨i, v, h1, rfl⟩
      cases i with
      | zero => simp at h1
      | succ i => exact ⟨i, v, by simpa using h1, by rw [show n + 1 + i = n + (i + 1) by omega]⟩
  | some w :: r, n, q => by
    rw [lvl, List.mem_cons, lvl_mem b ad r (n + 1) q]
    constructor
    · rintro (rfl | ⟨i, v, h1, rfl⟩)
      · exact ⟨0, w, rfl, rfl⟩
      · exact ⟨i + 1, v, by simpa using h1, by rw [show n + 1 + i = n + (i + 1) by omega]⟩
    · rintro ⟨i, v, h1, rfl⟩
      cases i with
      | zero =>
        have h2 : w = v := by simpa using h1
        exact Or.inl (by rw [h2]; rfl)
      | succ i => exact Or.inr ⟨i, v, by simpa using h1, by rw [show n + 1 + i = n + (i + 1) by omega]⟩
theorem lm_has {b : Nat} {ad : Nat → Nat} {nL : Nat} {ρ : List (Option AV)} {ls : Array Slot} (h : lm b ad nL ρ ls) : lv_has ls nL (lvl b ad 0 ρ) := by
  refine ⟨h.1, h.2.1, fun q hq => ?_⟩
  obtain ⟨i, v, h1, rfl⟩ := (lvl_mem b ad ρ 0 q).mp hq
  simpa using h.2.2 i v h1
theorem lm_of_has {b : Nat} {ad : Nat → Nat} {nL : Nat} {ρ ρ' : List (Option AV)} {ls : Array Slot} {i : Nat} {v : AV} (hρ : ρ.set i (some v) = ρ')
    (h : lv_has ls nL ((i, cv b ad v) :: (lvl b ad 0 ρ).filter (fun q => !(q.1 == i) && !(q.1 + 1 == i && q.2.category == 2)))) : lm b ad nL ρ' ls := by
  refine ⟨h.1, h.2.1, fun j w hj => ?_⟩
  subst hρ
  by_cases hij : j = i
  · subst hij
    have hl : j < ρ.length := by
      have := (List.getElem?_eq_some_iff.mp hj).1
      simpa using this
    rw [List.getElem?_set_self hl] at hj
    cases hj
    exact h.2.2 (j, cv b ad v) List.mem_cons_self
  · rw [List.getElem?_set_ne (Ne.symm hij)] at hj
    refine h.2.2 (j, cv b ad w) (List.mem_cons_of_mem _ (List.mem_filter.mpr ⟨(lvl_mem b ad ρ 0 _).mpr ⟨j, w, hj, by simp⟩, ?_⟩))
    simp [cv_cat, hij]
/-- no reference at the number n -/
def okv (n n' : Nat) : AV → Bool
  | .inr (.inr i) => decide (i < n) || decide (n' ≤ i)
  | _ => true
def okc (n n' : Nat) : AC → Bool
  | .inl _ => true
  | .inr (_, fs) => fs.all (okv n n')
def oko (n n' : Nat) : Option AV → Bool
  | none => true
  | some v => okv n n' v
def okS (n n' : Nat) (ρ : List (Option AV)) (st : List AV) (h : List AC) : Bool := ρ.all (oko n n') && st.all (okv n n') && h.all (okc n n')
/-- two address maps that differ between n and n' alone -/
def agr (n n' : Nat) (ad ad' : Nat → Nat) : Prop := ∀ i : Nat, (i < n ∨ n' ≤ i) → ad' i = ad i
theorem agr_cv {n n' b : Nat} {ad ad' : Nat → Nat} (h : agr n n' ad ad') {v : AV} (hv : okv n n' v = true) : cv b ad' v = cv b ad v := by
  rcases v with x | (_ | _) | i
  · rfl
  · rfl
  · rfl
  · show Value.ref (ad' i) = Value.ref (ad i)
    rw [h i (by simpa [okv] using hv)]
theorem agr_map {n n' b : Nat} {ad ad' : Nat → Nat} (h : agr n n' ad ad') {l : List AV} (hv : l.all (okv n n') = true) : l.map (cv b ad') = l.map (cv b ad) :=
  List.map_congr_left fun v hm => agr_cv h (List.all_eq_true.mp hv v hm)
theorem agr_lm {n n' b nL : Nat} {ad ad' : Nat → Nat} (h : agr n n' ad ad') {ρ : List (Option AV)} {ls : Array Slot} (hv : ρ.all (oko n n') = true) (hl : lm b ad nL ρ ls) : lm b ad' nL ρ ls := by
  refine ⟨hl.1, hl.2.1, fun i v hi => ?_⟩
  rw [agr_cv h (List.all_eq_true.mp hv (some v) (List.mem_of_getElem? hi))]
  exact hl.2.2 i v hi
theorem agr_refl {n n' : Nat} (ad : Nat → Nat) : agr n n' ad ad := fun _ _ => rfl
theorem agr_eq {n : Nat} {ad ad' : Nat → Nat} (h : agr n n ad ad') : ad' = ad := funext fun i => h i (by omega)
/-- what holds of the machine at a method's body, whatever the walk -/
def rk (r : Option AV) (i : Instr) : Prop := match r with
  | none => i = .return_
  | some (.inl _) => i = .ireturn
  | some (.inr _) => i = .areturn
def rn (q : MI) (r : Option AV) : Prop := match r with
  | none => mr q = none
  | some (.inl x) => ∃ ty, mr q = some ty ∧ narrow ty (.int x) = .int x
  | some (.inr _) => ∃ rt, mr q = some rt ∧ ((∃ n, rt = .object n) ∨ ∃ t, rt = .array t)
/-- the state: locals, heap, what has changed -/
def St (q : MI) (D : va_G) (b : Nat) (A : Nat → Prop) (s : State) (n0 : Nat) (ad0 ad : Nat → Nat) (h : List AC) (ws : va_W) (tys : List (ClassId × FieldType)) (H : Heap) (locs : List Loc) : Prop :=
  hm b ad h ws tys ∧ va_P D vwCl ws H ∧ va_K D vwCl tys s ∧ va_D A ws ∧ va_S A s.heap H locs ∧ agr n0 h.length ad0 ad ∧ n0 ≤ h.length
def Cx (q : MI) (X : Option (Nat × (Nat → Int32))) (Φ : Option AV → List AC → Prop) (p : Program) (l : Launch) (e : Env) (s : State) (m : MethodId) (args : Array Value) (below : List Frame) (meth : Method) (c : Code) (Q : State → Prop) (D : va_G) (b : Nat) (A : Nat → Prop) (n0 : Nat) (ad0 : Nat → Nat) : Prop :=
  (p.tables.exec = Jvm.exec ∧ c.code = mb q ∧ c.maxLocals = ml q ∧ s.vm.findClass (my q).cls = some m.cls ∧ ∀ w ∈ Wt, w.before args s = true) ∧
  (meth.name = (my q).name ∧ NN s) ∧ (∀ a : Nat, s.heap.size ≤ a → A a) ∧
  (∀ (L : Nat) (xs : Nat → Int32), X = some (L, xs) → va_X b L xs s s.heap ∧ b < s.heap.size ∧ ¬ A b) ∧
  ∀ (r : Option AV) (h' : List AC) (ad' : Nat → Nat) (ws' : va_W) (tys' : List (ClassId × FieldType)) (H' : Heap) (locs' : List Loc) (pc' : Nat) (ls' : Array Slot) (cu su : Nat) (i : Instr), Φ r h' → St q D b A s n0 ad0 ad' h' ws' tys' H' locs' → cu ≤ (mR q).cells → su ≤ (mR q).slots →
    decode (mb q) pc' = .ok (i, 1) → rk r i → rn q r → W p l e (mR q) s m args below meth c H' locs' cu su Q (F0 m pc' ls' (r.toList.map (cv b ad')))
/-- FROM HERE, with locals ρ, stack st, heap h, cells and slots used: the method ends with Φ -/
def Ev (q : MI) (X : Option (Nat × (Nat → Int32))) (Φ : Option AV → List AC → Prop) (pc : Nat) (ρ : List (Option AV)) (st : List AV) (h : List AC) (cu su : Nat) : Prop :=
  ∀ (p : Program) (l : Launch) (e : Env) (s : State) (m : MethodId) (args : Array Value) (below : List Frame) (meth : Method) (c : Code) (Q : State → Prop) (D : va_G) (b : Nat) (A : Nat → Prop) (n0 : Nat) (ad0 : Nat → Nat),
    Cx q X Φ p l e s m args below meth c Q D b A n0 ad0 → ∀ (ad : Nat → Nat) (ws : va_W) (tys : List (ClassId × FieldType)) (H : Heap) (locs : List Loc) (ls : Array Slot), lm b ad (ml q) ρ ls → St q D b A s n0 ad0 ad h ws tys H locs →
    W p l e (mR q) s m args below meth c H locs cu su Q (F0 m pc ls (st.map (cv b ad)))
/-- a method's contract: from the values avs and the heap h it ends with Φ -/
def QM (D : va_G) (b : Nat) (ad : Nat → Nat) (n : Nat) (Φ : Option AV → List AC → Prop) (A : Nat → Prop) : Array Value → State → Outcome → State → Prop := fun _ st oc t =>
  (∃ (r : Option AV) (h' : List AC) (ad' : Nat → Nat) (ws' : va_W) (tys' : List (ClassId × FieldType)), oc = .returned (r.map (cv b ad')) ∧ Φ r h' ∧ agr n h'.length ad ad' ∧ n ≤ h'.length ∧ hm b ad' h' ws' tys' ∧ va_P D vwCl ws' t.heap ∧ va_K D vwCl tys' t ∧ va_D A ws') ∧ va_F A st t
def EvM (q : MI) (avs : List AV) (h : List AC) (Φ : Option AV → List AC → Prop) : Prop :=
  ∀ (l : Launch) (D : va_G) (b : Nat) (ad : Nat → Nat) (ws : va_W) (tys : List (ClassId × FieldType)) (sz : Nat), hm b ad h ws tys →
    Met l (my q) (Ww q) (mR q) (va_Pc (avs.map (cv b ad)) (fun U => U.heap.size = sz ∧ va_P D vwCl ws U.heap ∧ va_K D vwCl tys U ∧ va_D (fun _ => True) ws ∧ NN U))
      (QM D b ad h.length Φ (va_A ws sz)) (mR q).cells (mR q).slots (va_A ws sz)
end
section
theorem lg_sl_cv (b : Nat) (ad : Nat → Nat) (avs : List AV) : lg_sl (avs.map (cv b ad)) = avs.map (fun v => Slot.val (cv b ad v)) := by
  induction avs with
  | nil => rfl
  | cons v t ih =>
    have e : lg_sl ((v :: t).map (cv b ad)) = Slot.val (cv b ad v) :: lg_sl (t.map (cv b ad)) := by
      simp [lg_sl, cv_cat]
    rw [e, ih]
    rfl
theorem lv_args_cv (b : Nat) (ad : Nat → Nat) : ∀ (avs : List AV) (n i : Nat) (v : AV), avs[i]? = some v → (n + i, cv b ad v) ∈ lv_args n (avs.map (cv b ad))
  | [], n, i, v, h => by simp at h
  | w :: t, n, i, v, h => by
    have e : lv_args n ((w :: t).map (cv b ad)) = (n, cv b ad w) :: lv_args (n + 1) (t.map (cv b ad)) := by
      simp [lv_args, cv_cat]
    rw [e]
    cases i with
    | zero =>
      have h2 : w = v := by simpa using h
      rw [h2]
      exact List.mem_cons_self
    | succ i =>
      rw [show n + (i + 1) = (n + 1) + i by omega]
      exact List.mem_cons_of_mem _ (lv_args_cv b ad t (n + 1) i v (by simpa using h))
theorem EvM.of {q : MI} {avs : List AV} {h : List AC} {Φ : Option AV → List AC → Prop} (hy : plainName (my q).cls = true) (hn : avs.length ≤ ml q)
    (k : Ev q none Φ 0 (avs.map some ++ List.replicate (ml q - avs.length) none) [] h 0 0) : EvM q avs h Φ := by
  intro l D b ad ws tys sz hM
  refine Met.ofW (cc := mb q) (maxL := ml q) (ret := mr q) hy rfl ?_
  intro p e s m args below meth c s₁ B hml hv
  obtain ⟨rfl, hsz, hP, hK, hD0, hNN⟩ := hv
  subst hsz
  have hts := atoms_spec (ws := Ww q) B.pre
  have hl0 := lv_entry (avs.map (cv b ad)) (n := ml q) (by rw [lg_sl_cv]; simpa using hn)
  rw [lg_entry_eq]
  generalize (lg_sl (avs.map (cv b ad)) ++ List.replicate (ml q - (lg_sl (avs.map (cv b ad))).length) Slot.unset).toArray = ls at hl0 ⊢
  refine k p l e s m _ below meth c _ D b (va_A ws s.heap.size) h.length ad ⟨⟨B.exec, B.bytes, hml, findClass_of_methodNamed B.named, fun w hw => hts w (List.mem_cons_of_mem _ hw)⟩, ⟨(name_of_methodNamed B.named B.method).1, hNN⟩, fun a ha => Or.inr ha, (fun L xs hX => by cases hX), ?_⟩ ad ws tys s.heap [] ls ?_ ?_
  · intro r h' ad' ws' tys' H' locs' pc' ls' cu su i hΦ hSt hcu hsu hd hrk hrn
    obtain ⟨hM', hP', hK', hD', hS', hag, hle⟩ := hSt
    refine W.widen hcu hsu ?_
    have hq : ∀ t : State, t.heap = H' → s.WarmedH t.vm → QM D b ad h.length Φ (va_A ws s.heap.size) (avs.map (cv b ad)).toArray s (.returned (r.map (cv b ad'))) t := fun t ht hW => ⟨⟨r, h', ad', ws', tys', rfl, hΦ, hag, hle, hM', by rw [ht]; exact hP', va_K.moved hW.alike hK', hD'⟩, hS'.F ht⟩
    have hret := B.returns
    have hlk := B.notSynchronized
    rcases r with _ | (x | v)
    · obtain rfl : i = .return_ := hrk
      exact W.vret B.exec B.bytes (hret.trans hrn) hq hS'.2.2 hd hlk
    · obtain rfl : i = .ireturn := hrk
      obtain ⟨ty, h1, h2⟩ := hrn
      exact W.zret B.exec B.bytes (hret.trans h1) h2 hq hS'.2.2 hd hlk
    · obtain rfl : i = .areturn := hrk
      obtain ⟨rt, h1, h2⟩ := hrn
      refine W.aret B.exec B.bytes (hret.trans h1) h2 ?_ hq hS'.2.2 hd hlk
      rcases v with (_ | _) | i
      · exact Or.inl rfl
      · exact Or.inr ⟨_, rfl⟩
      · exact Or.inr ⟨_, rfl⟩
  · refine ⟨hl0.1, hl0.2.1, fun i v hi => ?_⟩
    have hlt : i < avs.length := by
      rcases Nat.lt_or_ge i avs.length with g | g
      · exact g
      · rw [List.getElem?_append_right (by simpa using g)] at hi
        have := List.mem_of_getElem? hi
        simp at this
    rw [List.getElem?_append_left (by simpa using hlt), List.getElem?_map] at hi
    have h2 : avs[i]? = some v := by
      cases hz : avs[i]? with
      | none => rw [hz] at hi; simp at hi
      | some z => rw [hz] at hi; simpa using hi
    exact hl0.2.2 (i, cv b ad v) (by simpa using lv_args_cv b ad avs 0 i v h2)
  · exact ⟨hM, hP, hK, hD0.self, va_S.rf, agr_refl ad, Nat.le_refl _⟩
section EvRows
variable {q : MI} {X : Option (Nat × (Nat → Int32))} {Φ : Option AV → List AC → Prop} {pc : Nat} {ρ : List (Option AV)} {st : List AV} {h : List AC} {cu su : Nat}

theorem Ev.iadd {x y : Int32} (hd : decode (mb q) pc = .ok (.iadd, 1)) (k : Ev q X Φ (pc + 1) ρ (vi (x + y) :: st) h cu su) : Ev q X Φ pc ρ (vi y :: vi x :: st) h cu su := fun p l e s m args below meth c Q D b A n0 ad0 C ad ws tys H locs ls L S => lv_iadd C.1.1 C.1.2.1 hd (k p l e s m args below meth c Q D b A n0 ad0 C ad ws tys H locs ls L S)
theorem Ev.isub {x y : Int32} (hd : decode (mb q) pc = .ok (.isub, 1)) (k : Ev q X Φ (pc + 1) ρ (vi (x - y) :: st) h cu su) : Ev q X Φ pc ρ (vi y :: vi x :: st) h cu su := fun p l e s m args below meth c Q D b A n0 ad0 C ad ws tys H locs ls L S => lv_isub C.1.1 C.1.2.1 hd (k p l e s m args below meth c Q D b A n0 ad0 C ad ws tys H locs ls L S)
theorem Ev.imul {x y : Int32} (hd : decode (mb q) pc = .ok (.imul, 1)) (k : Ev q X Φ (pc + 1) ρ (vi (x * y) :: st) h cu su) : Ev q X Φ pc ρ (vi y :: vi x :: st) h cu su := fun p l e s m args below meth c Q D b A n0 ad0 C ad ws tys H locs ls L S => lv_imul C.1.1 C.1.2.1 hd (k p l e s m args below meth c Q D b A n0 ad0 C ad ws tys H locs ls L S)
theorem Ev.iand {x y : Int32} (hd : decode (mb q) pc = .ok (.iand, 1)) (k : Ev q X Φ (pc + 1) ρ (vi (x &&& y) :: st) h cu su) : Ev q X Φ pc ρ (vi y :: vi x :: st) h cu su := fun p l e s m args below meth c Q D b A n0 ad0 C ad ws tys H locs ls L S => lv_iand C.1.1 C.1.2.1 hd (k p l e s m args below meth c Q D b A n0 ad0 C ad ws tys H locs ls L S)
theorem Ev.ior {x y : Int32} (hd : decode (mb q) pc = .ok (.ior, 1)) (k : Ev q X Φ (pc + 1) ρ (vi (x ||| y) :: st) h cu su) : Ev q X Φ pc ρ (vi y :: vi x :: st) h cu su := fun p l e s m args below meth c Q D b A n0 ad0 C ad ws tys H locs ls L S => lv_ior C.1.1 C.1.2.1 hd (k p l e s m args below meth c Q D b A n0 ad0 C ad ws tys H locs ls L S)
theorem Ev.ixor {x y : Int32} (hd : decode (mb q) pc = .ok (.ixor, 1)) (k : Ev q X Φ (pc + 1) ρ (vi (x ^^^ y) :: st) h cu su) : Ev q X Φ pc ρ (vi y :: vi x :: st) h cu su := fun p l e s m args below meth c Q D b A n0 ad0 C ad ws tys H locs ls L S => lv_ixor C.1.1 C.1.2.1 hd (k p l e s m args below meth c Q D b A n0 ad0 C ad ws tys H locs ls L S)
theorem Ev.ishl {x y : Int32} (hd : decode (mb q) pc = .ok (.ishl, 1)) (k : Ev q X Φ (pc + 1) ρ (vi (x <<< (y &&& 31)) :: st) h cu su) : Ev q X Φ pc ρ (vi y :: vi x :: st) h cu su := fun p l e s m args below meth c Q D b A n0 ad0 C ad ws tys H locs ls L S => lv_ishl C.1.1 C.1.2.1 hd (k p l e s m args below meth c Q D b A n0 ad0 C ad ws tys H locs ls L S)
theorem Ev.ishr {x y : Int32} (hd : decode (mb q) pc = .ok (.ishr, 1)) (k : Ev q X Φ (pc + 1) ρ (vi (x >>> (y &&& 31)) :: st) h cu su) : Ev q X Φ pc ρ (vi y :: vi x :: st) h cu su := fun p l e s m args below meth c Q D b A n0 ad0 C ad ws tys H locs ls L S => lv_ishr C.1.1 C.1.2.1 hd (k p l e s m args below meth c Q D b A n0 ad0 C ad ws tys H locs ls L S)
theorem Ev.idiv {x y : Int32} (hd : decode (mb q) pc = .ok (.idiv, 1)) (hne : ¬ y = 0) (k : Ev q X Φ (pc + 1) ρ (vi (x / y) :: st) h cu su) : Ev q X Φ pc ρ (vi y :: vi x :: st) h cu su := fun p l e s m args below meth c Q D b A n0 ad0 C ad ws tys H locs ls L S => lv_idiv C.1.1 C.1.2.1 hd hne (k p l e s m args below meth c Q D b A n0 ad0 C ad ws tys H locs ls L S)
theorem Ev.irem {x y : Int32} (hd : decode (mb q) pc = .ok (.irem, 1)) (hne : ¬ y = 0) (k : Ev q X Φ (pc + 1) ρ (vi (x - x / y * y) :: st) h cu su) : Ev q X Φ pc ρ (vi y :: vi x :: st) h cu su := fun p l e s m args below meth c Q D b A n0 ad0 C ad ws tys H locs ls L S => lv_irem C.1.1 C.1.2.1 hd hne (k p l e s m args below meth c Q D b A n0 ad0 C ad ws tys H locs ls L S)
theorem Ev.iushr {x y v : Int32} (hd : decode (mb q) pc = .ok (.iushr, 1)) (hv : (x.toUInt32 >>> (y.toUInt32 &&& Int32.toUInt32 31)).toInt32 = v) (k : Ev q X Φ (pc + 1) ρ (vi v :: st) h cu su) : Ev q X Φ pc ρ (vi y :: vi x :: st) h cu su := fun p l e s m args below meth c Q D b A n0 ad0 C ad ws tys H locs ls L S => lv_iushr C.1.1 C.1.2.1 hd hv (k p l e s m args below meth c Q D b A n0 ad0 C ad ws tys H locs ls L S)
theorem Ev.ineg {x : Int32} (hd : decode (mb q) pc = .ok (.ineg, 1)) (k : Ev q X Φ (pc + 1) ρ (vi (-x) :: st) h cu su) : Ev q X Φ pc ρ (vi x :: st) h cu su := fun p l e s m args below meth c Q D b A n0 ad0 C ad ws tys H locs ls L S => lv_ineg C.1.1 C.1.2.1 hd (k p l e s m args below meth c Q D b A n0 ad0 C ad ws tys H locs ls L S)
theorem Ev.iconst {n : Int} {v : Int32} (hd : decode (mb q) pc = .ok (.iconst n, 1)) (hv : Int32.ofInt n = v) (k : Ev q X Φ (pc + 1) ρ (vi v :: st) h cu su) : Ev q X Φ pc ρ (st) h cu su := fun p l e s m args below meth c Q D b A n0 ad0 C ad ws tys H locs ls L S => lv_iconst C.1.1 C.1.2.1 hd hv (k p l e s m args below meth c Q D b A n0 ad0 C ad ws tys H locs ls L S)
theorem Ev.bipush {n : Int} {v : Int32} (hd : decode (mb q) pc = .ok (.bipush n, 2)) (hv : (Int8.ofInt n).toInt32 = v) (k : Ev q X Φ (pc + 2) ρ (vi v :: st) h cu su) : Ev q X Φ pc ρ (st) h cu su := fun p l e s m args below meth c Q D b A n0 ad0 C ad ws tys H locs ls L S => lv_bipush C.1.1 C.1.2.1 hd hv (k p l e s m args below meth c Q D b A n0 ad0 C ad ws tys H locs ls L S)
theorem Ev.sipush {n : Int} {v : Int32} (hd : decode (mb q) pc = .ok (.sipush n, 3)) (hv : (Int16.ofInt n).toInt32 = v) (k : Ev q X Φ (pc + 3) ρ (vi v :: st) h cu su) : Ev q X Φ pc ρ (st) h cu su := fun p l e s m args below meth c Q D b A n0 ad0 C ad ws tys H locs ls L S => lv_sipush C.1.1 C.1.2.1 hd hv (k p l e s m args below meth c Q D b A n0 ad0 C ad ws tys H locs ls L S)
theorem Ev.ldc {n : Nat} {v : Int32} (hd : decode (mb q) pc = .ok (.ldc n, 2)) (hv : Cond.constant (my q).cls n v ∈ Wt) (k : Ev q X Φ (pc + 2) ρ (vi v :: st) h cu su) : Ev q X Φ pc ρ (st) h cu su := fun p l e s m args below meth c Q D b A n0 ad0 C ad ws tys H locs ls L S => lv_ldc C.1.1 C.1.2.1 C.1.2.2.2.1 (C.1.2.2.2.2 _ hv) hd (k p l e s m args below meth c Q D b A n0 ad0 C ad ws tys H locs ls L S)
theorem Ev.iload_n {k4 : Fin 4} {x : Int32} (hd : decode (mb q) pc = .ok (.iload_n k4, 1)) (hl : ρ[(k4 : Nat)]? = some (some (vi x))) (k : Ev q X Φ (pc + 1) ρ (vi x :: st) h cu su) : Ev q X Φ pc ρ (st) h cu su := fun p l e s m args below meth c Q D b A n0 ad0 C ad ws tys H locs ls L S => lv_iload_n C.1.1 C.1.2.1 hd rfl (L.2.2 _ _ hl) (k p l e s m args below meth c Q D b A n0 ad0 C ad ws tys H locs ls L S)
theorem Ev.iload {i : Nat} {x : Int32} (hd : decode (mb q) pc = .ok (.iload i, 2)) (hl : ρ[i]? = some (some (vi x))) (k : Ev q X Φ (pc + 2) ρ (vi x :: st) h cu su) : Ev q X Φ pc ρ (st) h cu su := fun p l e s m args below meth c Q D b A n0 ad0 C ad ws tys H locs ls L S => lv_iload C.1.1 C.1.2.1 hd (L.2.2 _ _ hl) (k p l e s m args below meth c Q D b A n0 ad0 C ad ws tys H locs ls L S)
theorem Ev.aload_n {k4 : Fin 4} {x : Nat} (hd : decode (mb q) pc = .ok (.aload_n k4, 1)) (hl : ρ[(k4 : Nat)]? = some (some (vr x))) (k : Ev q X Φ (pc + 1) ρ (vr x :: st) h cu su) : Ev q X Φ pc ρ (st) h cu su := fun p l e s m args below meth c Q D b A n0 ad0 C ad ws tys H locs ls L S => lv_aload_n C.1.1 C.1.2.1 hd rfl (L.2.2 _ _ hl) (k p l e s m args below meth c Q D b A n0 ad0 C ad ws tys H locs ls L S)
theorem Ev.aload {i : Nat} {x : Nat} (hd : decode (mb q) pc = .ok (.aload i, 2)) (hl : ρ[i]? = some (some (vr x))) (k : Ev q X Φ (pc + 2) ρ (vr x :: st) h cu su) : Ev q X Φ pc ρ (st) h cu su := fun p l e s m args below meth c Q D b A n0 ad0 C ad ws tys H locs ls L S => lv_aload C.1.1 C.1.2.1 hd (L.2.2 _ _ hl) (k p l e s m args below meth c Q D b A n0 ad0 C ad ws tys H locs ls L S)
theorem Ev.aloadS_n {k4 : Fin 4} (hd : decode (mb q) pc = .ok (.aload_n k4, 1)) (hl : ρ[(k4 : Nat)]? = some (some vs)) (k : Ev q X Φ (pc + 1) ρ (vs :: st) h cu su) : Ev q X Φ pc ρ (st) h cu su := fun p l e s m args below meth c Q D b A n0 ad0 C ad ws tys H locs ls L S => lv_aload_n C.1.1 C.1.2.1 hd rfl (L.2.2 _ _ hl) (k p l e s m args below meth c Q D b A n0 ad0 C ad ws tys H locs ls L S)
theorem Ev.istore_n {k4 : Fin 4} {x : Int32} {ρ' : List (Option AV)} (hd : decode (mb q) pc = .ok (.istore_n k4, 1)) (hl : (k4 : Nat) < ml q) (hρ : ρ.set (k4 : Nat) (some (vi x)) = ρ') (k : Ev q X Φ (pc + 1) ρ' st h cu su) : Ev q X Φ pc ρ (vi x :: st) h cu su := by
  intro p l e s m args below meth c Q D b A n0 ad0 C ad ws tys H locs ls L S
  refine lv_istore_n C.1.1 C.1.2.1 hd rfl (lm_has L) hl rfl (fun ls' hl' => ?_)
  exact k p l e s m args below meth c Q D b A n0 ad0 C ad ws tys H locs ls' (lm_of_has hρ hl') S
theorem Ev.istore {i : Nat} {x : Int32} {ρ' : List (Option AV)} (hd : decode (mb q) pc = .ok (.istore i, 2)) (hl : i < ml q) (hρ : ρ.set i (some (vi x)) = ρ') (k : Ev q X Φ (pc + 2) ρ' st h cu su) : Ev q X Φ pc ρ (vi x :: st) h cu su := by
  intro p l e s m args below meth c Q D b A n0 ad0 C ad ws tys H locs ls L S
  refine lv_istore C.1.1 C.1.2.1 hd (lm_has L) hl rfl (fun ls' hl' => ?_)
  exact k p l e s m args below meth c Q D b A n0 ad0 C ad ws tys H locs ls' (lm_of_has hρ hl') S
theorem Ev.astore_n {k4 : Fin 4} {x : Nat} {ρ' : List (Option AV)} (hd : decode (mb q) pc = .ok (.astore_n k4, 1)) (hl : (k4 : Nat) < ml q) (hρ : ρ.set (k4 : Nat) (some (vr x)) = ρ') (k : Ev q X Φ (pc + 1) ρ' st h cu su) : Ev q X Φ pc ρ (vr x :: st) h cu su := by
  intro p l e s m args below meth c Q D b A n0 ad0 C ad ws tys H locs ls L S
  refine lv_astore_n C.1.1 C.1.2.1 hd rfl (lm_has L) hl rfl (fun ls' hl' => ?_)
  exact k p l e s m args below meth c Q D b A n0 ad0 C ad ws tys H locs ls' (lm_of_has hρ hl') S
theorem Ev.astore {i : Nat} {x : Nat} {ρ' : List (Option AV)} (hd : decode (mb q) pc = .ok (.astore i, 2)) (hl : i < ml q) (hρ : ρ.set i (some (vr x)) = ρ') (k : Ev q X Φ (pc + 2) ρ' st h cu su) : Ev q X Φ pc ρ (vr x :: st) h cu su := by
  intro p l e s m args below meth c Q D b A n0 ad0 C ad ws tys H locs ls L S
  refine lv_astore C.1.1 C.1.2.1 hd (lm_has L) hl rfl (fun ls' hl' => ?_)
  exact k p l e s m args below meth c Q D b A n0 ad0 C ad ws tys H locs ls' (lm_of_has hρ hl') S
theorem Ev.iinc {i : Nat} {n : Int} {x v : Int32} {ρ' : List (Option AV)} (hd : decode (mb q) pc = .ok (.iinc i n, 3)) (hx : ρ[i]? = some (some (vi x))) (hl : i < ml q) (hv : x + Int32.ofInt n = v) (hρ : ρ.set i (some (vi v)) = ρ') (k : Ev q X Φ (pc + 3) ρ' st h cu su) : Ev q X Φ pc ρ st h cu su := by
  intro p l e s m args below meth c Q D b A n0 ad0 C ad ws tys H locs ls L S
  have hmem : ((i, Value.int x) : Nat × Value) ∈ lvl b ad 0 ρ := (lvl_mem b ad ρ 0 _).mpr ⟨i, vi x, hx, by simp [cv]⟩
  obtain ⟨kk, hkk⟩ := List.getElem?_of_mem hmem
  refine lv_iinc C.1.1 C.1.2.1 hd (lm_has L) hkk hv hl rfl (fun ls' hl' => ?_)
  exact k p l e s m args below meth c Q D b A n0 ad0 C ad ws tys H locs ls' (lm_of_has hρ hl') S
theorem Ev.dup {v : AV} (hd : decode (mb q) pc = .ok (.dup, 1)) (k : Ev q X Φ (pc + 1) ρ (v :: v :: st) h cu su) : Ev q X Φ pc ρ (v :: st) h cu su := fun p l e s m args below meth c Q D b A n0 ad0 C ad ws tys H locs ls L S => lv_dup C.1.1 C.1.2.1 hd (cv_cat b ad v) (k p l e s m args below meth c Q D b A n0 ad0 C ad ws tys H locs ls L S)
theorem Ev.pop {v : AV} (hd : decode (mb q) pc = .ok (.pop, 1)) (k : Ev q X Φ (pc + 1) ρ (st) h cu su) : Ev q X Φ pc ρ (v :: st) h cu su := fun p l e s m args below meth c Q D b A n0 ad0 C ad ws tys H locs ls L S => lv_pop C.1.1 C.1.2.1 hd (cv_cat b ad v) (k p l e s m args below meth c Q D b A n0 ad0 C ad ws tys H locs ls L S)
theorem Ev.dup_x1 {v w : AV} (hd : decode (mb q) pc = .ok (.dup_x1, 1)) (k : Ev q X Φ (pc + 1) ρ (v :: w :: v :: st) h cu su) : Ev q X Φ pc ρ (v :: w :: st) h cu su := fun p l e s m args below meth c Q D b A n0 ad0 C ad ws tys H locs ls L S => lv_dup_x1 C.1.1 C.1.2.1 hd (cv_cat b ad v) (cv_cat b ad w) (k p l e s m args below meth c Q D b A n0 ad0 C ad ws tys H locs ls L S)
theorem Ev.dup_x2 {v w u : AV} (hd : decode (mb q) pc = .ok (.dup_x2, 1)) (k : Ev q X Φ (pc + 1) ρ (v :: w :: u :: v :: st) h cu su) : Ev q X Φ pc ρ (v :: w :: u :: st) h cu su := fun p l e s m args below meth c Q D b A n0 ad0 C ad ws tys H locs ls L S => lv_dup_x2 C.1.1 C.1.2.1 hd (cv_cat b ad v) (cv_cat b ad w) (cv_cat b ad u) (k p l e s m args below meth c Q D b A n0 ad0 C ad ws tys H locs ls L S)
theorem Ev.dup2 {v w : AV} (hd : decode (mb q) pc = .ok (.dup2, 1)) (k : Ev q X Φ (pc + 1) ρ (v :: w :: v :: w :: st) h cu su) : Ev q X Φ pc ρ (v :: w :: st) h cu su := fun p l e s m args below meth c Q D b A n0 ad0 C ad ws tys H locs ls L S => lv_dup2_11 C.1.1 C.1.2.1 hd (cv_cat b ad v) (cv_cat b ad w) (k p l e s m args below meth c Q D b A n0 ad0 C ad ws tys H locs ls L S)
theorem Ev.null (hd : decode (mb q) pc = .ok (.aconst_null, 1)) (k : Ev q X Φ (pc + 1) ρ (vn :: st) h cu su) : Ev q X Φ pc ρ (st) h cu su := fun p l e s m args below meth c Q D b A n0 ad0 C ad ws tys H locs ls L S => lv_null C.1.1 C.1.2.1 hd (k p l e s m args below meth c Q D b A n0 ad0 C ad ws tys H locs ls L S)
theorem Ev.if_eq {x : Int32} {off : Int} {tgt : Nat} (hd : decode (mb q) pc = .ok (.ifCond .eq off, 3)) (ht : (pc : Int) + off = (tgt : Int)) (kt : x = 0 → Ev q X Φ tgt ρ st h cu su) (kf : ¬ x = 0 → Ev q X Φ (pc + 3) ρ st h cu su) : Ev q X Φ pc ρ (vi x :: st) h cu su := fun p l e s m args below meth c Q D b A n0 ad0 C ad ws tys H locs ls L S => lv_if_eq C.1.1 C.1.2.1 hd ht (fun g => kt g p l e s m args below meth c Q D b A n0 ad0 C ad ws tys H locs ls L S) (fun g => kf g p l e s m args below meth c Q D b A n0 ad0 C ad ws tys H locs ls L S)
theorem Ev.if_ne {x : Int32} {off : Int} {tgt : Nat} (hd : decode (mb q) pc = .ok (.ifCond .ne off, 3)) (ht : (pc : Int) + off = (tgt : Int)) (kt : ¬ x = 0 → Ev q X Φ tgt ρ st h cu su) (kf : x = 0 → Ev q X Φ (pc + 3) ρ st h cu su) : Ev q X Φ pc ρ (vi x :: st) h cu su := fun p l e s m args below meth c Q D b A n0 ad0 C ad ws tys H locs ls L S => lv_if_ne C.1.1 C.1.2.1 hd ht (fun g => kt g p l e s m args below meth c Q D b A n0 ad0 C ad ws tys H locs ls L S) (fun g => kf g p l e s m args below meth c Q D b A n0 ad0 C ad ws tys H locs ls L S)
theorem Ev.if_lt {x : Int32} {off : Int} {tgt : Nat} (hd : decode (mb q) pc = .ok (.ifCond .lt off, 3)) (ht : (pc : Int) + off = (tgt : Int)) (kt : x < 0 → Ev q X Φ tgt ρ st h cu su) (kf : ¬ x < 0 → Ev q X Φ (pc + 3) ρ st h cu su) : Ev q X Φ pc ρ (vi x :: st) h cu su := fun p l e s m args below meth c Q D b A n0 ad0 C ad ws tys H locs ls L S => lv_if_lt C.1.1 C.1.2.1 hd ht (fun g => kt g p l e s m args below meth c Q D b A n0 ad0 C ad ws tys H locs ls L S) (fun g => kf g p l e s m args below meth c Q D b A n0 ad0 C ad ws tys H locs ls L S)
theorem Ev.if_ge {x : Int32} {off : Int} {tgt : Nat} (hd : decode (mb q) pc = .ok (.ifCond .ge off, 3)) (ht : (pc : Int) + off = (tgt : Int)) (kt : 0 ≤ x → Ev q X Φ tgt ρ st h cu su) (kf : ¬ 0 ≤ x → Ev q X Φ (pc + 3) ρ st h cu su) : Ev q X Φ pc ρ (vi x :: st) h cu su := fun p l e s m args below meth c Q D b A n0 ad0 C ad ws tys H locs ls L S => lv_if_ge C.1.1 C.1.2.1 hd ht (fun g => kt g p l e s m args below meth c Q D b A n0 ad0 C ad ws tys H locs ls L S) (fun g => kf g p l e s m args below meth c Q D b A n0 ad0 C ad ws tys H locs ls L S)
theorem Ev.if_gt {x : Int32} {off : Int} {tgt : Nat} (hd : decode (mb q) pc = .ok (.ifCond .gt off, 3)) (ht : (pc : Int) + off = (tgt : Int)) (kt : 0 < x → Ev q X Φ tgt ρ st h cu su) (kf : ¬ 0 < x → Ev q X Φ (pc + 3) ρ st h cu su) : Ev q X Φ pc ρ (vi x :: st) h cu su := fun p l e s m args below meth c Q D b A n0 ad0 C ad ws tys H locs ls L S => lv_if_gt C.1.1 C.1.2.1 hd ht (fun g => kt g p l e s m args below meth c Q D b A n0 ad0 C ad ws tys H locs ls L S) (fun g => kf g p l e s m args below meth c Q D b A n0 ad0 C ad ws tys H locs ls L S)
theorem Ev.if_le {x : Int32} {off : Int} {tgt : Nat} (hd : decode (mb q) pc = .ok (.ifCond .le off, 3)) (ht : (pc : Int) + off = (tgt : Int)) (kt : x ≤ 0 → Ev q X Φ tgt ρ st h cu su) (kf : ¬ x ≤ 0 → Ev q X Φ (pc + 3) ρ st h cu su) : Ev q X Φ pc ρ (vi x :: st) h cu su := fun p l e s m args below meth c Q D b A n0 ad0 C ad ws tys H locs ls L S => lv_if_le C.1.1 C.1.2.1 hd ht (fun g => kt g p l e s m args below meth c Q D b A n0 ad0 C ad ws tys H locs ls L S) (fun g => kf g p l e s m args below meth c Q D b A n0 ad0 C ad ws tys H locs ls L S)
theorem Ev.icmp_eq {x y : Int32} {off : Int} {tgt : Nat} (hd : decode (mb q) pc = .ok (.if_icmp .eq off, 3)) (ht : (pc : Int) + off = (tgt : Int)) (kt : x = y → Ev q X Φ tgt ρ st h cu su) (kf : ¬ x = y → Ev q X Φ (pc + 3) ρ st h cu su) : Ev q X Φ pc ρ (vi y :: vi x :: st) h cu su := fun p l e s m args below meth c Q D b A n0 ad0 C ad ws tys H locs ls L S => lv_icmp_eq C.1.1 C.1.2.1 hd ht (fun g => kt g p l e s m args below meth c Q D b A n0 ad0 C ad ws tys H locs ls L S) (fun g => kf g p l e s m args below meth c Q D b A n0 ad0 C ad ws tys H locs ls L S)
theorem Ev.icmp_ne {x y : Int32} {off : Int} {tgt : Nat} (hd : decode (mb q) pc = .ok (.if_icmp .ne off, 3)) (ht : (pc : Int) + off = (tgt : Int)) (kt : ¬ x = y → Ev q X Φ tgt ρ st h cu su) (kf : x = y → Ev q X Φ (pc + 3) ρ st h cu su) : Ev q X Φ pc ρ (vi y :: vi x :: st) h cu su := fun p l e s m args below meth c Q D b A n0 ad0 C ad ws tys H locs ls L S => lv_icmp_ne C.1.1 C.1.2.1 hd ht (fun g => kt g p l e s m args below meth c Q D b A n0 ad0 C ad ws tys H locs ls L S) (fun g => kf g p l e s m args below meth c Q D b A n0 ad0 C ad ws tys H locs ls L S)
theorem Ev.icmp_lt {x y : Int32} {off : Int} {tgt : Nat} (hd : decode (mb q) pc = .ok (.if_icmp .lt off, 3)) (ht : (pc : Int) + off = (tgt : Int)) (kt : x < y → Ev q X Φ tgt ρ st h cu su) (kf : ¬ x < y → Ev q X Φ (pc + 3) ρ st h cu su) : Ev q X Φ pc ρ (vi y :: vi x :: st) h cu su := fun p l e s m args below meth c Q D b A n0 ad0 C ad ws tys H locs ls L S => lv_icmp_lt C.1.1 C.1.2.1 hd ht (fun g => kt g p l e s m args below meth c Q D b A n0 ad0 C ad ws tys H locs ls L S) (fun g => kf g p l e s m args below meth c Q D b A n0 ad0 C ad ws tys H locs ls L S)
theorem Ev.icmp_ge {x y : Int32} {off : Int} {tgt : Nat} (hd : decode (mb q) pc = .ok (.if_icmp .ge off, 3)) (ht : (pc : Int) + off = (tgt : Int)) (kt : y ≤ x → Ev q X Φ tgt ρ st h cu su) (kf : ¬ y ≤ x → Ev q X Φ (pc + 3) ρ st h cu su) : Ev q X Φ pc ρ (vi y :: vi x :: st) h cu su := fun p l e s m args below meth c Q D b A n0 ad0 C ad ws tys H locs ls L S => lv_icmp_ge C.1.1 C.1.2.1 hd ht (fun g => kt g p l e s m args below meth c Q D b A n0 ad0 C ad ws tys H locs ls L S) (fun g => kf g p l e s m args below meth c Q D b A n0 ad0 C ad ws tys H locs ls L S)
theorem Ev.icmp_gt {x y : Int32} {off : Int} {tgt : Nat} (hd : decode (mb q) pc = .ok (.if_icmp .gt off, 3)) (ht : (pc : Int) + off = (tgt : Int)) (kt : y < x → Ev q X Φ tgt ρ st h cu su) (kf : ¬ y < x → Ev q X Φ (pc + 3) ρ st h cu su) : Ev q X Φ pc ρ (vi y :: vi x :: st) h cu su := fun p l e s m args below meth c Q D b A n0 ad0 C ad ws tys H locs ls L S => lv_icmp_gt C.1.1 C.1.2.1 hd ht (fun g => kt g p l e s m args below meth c Q D b A n0 ad0 C ad ws tys H locs ls L S) (fun g => kf g p l e s m args below meth c Q D b A n0 ad0 C ad ws tys H locs ls L S)
theorem Ev.icmp_le {x y : Int32} {off : Int} {tgt : Nat} (hd : decode (mb q) pc = .ok (.if_icmp .le off, 3)) (ht : (pc : Int) + off = (tgt : Int)) (kt : x ≤ y → Ev q X Φ tgt ρ st h cu su) (kf : ¬ x ≤ y → Ev q X Φ (pc + 3) ρ st h cu su) : Ev q X Φ pc ρ (vi y :: vi x :: st) h cu su := fun p l e s m args below meth c Q D b A n0 ad0 C ad ws tys H locs ls L S => lv_icmp_le C.1.1 C.1.2.1 hd ht (fun g => kt g p l e s m args below meth c Q D b A n0 ad0 C ad ws tys H locs ls L S) (fun g => kf g p l e s m args below meth c Q D b A n0 ad0 C ad ws tys H locs ls L S)
theorem Ev.goto {off : Int} {tgt : Nat} (hd : decode (mb q) pc = .ok (.goto off, 3)) (ht : (pc : Int) + off = (tgt : Int)) (k : Ev q X Φ tgt ρ st h cu su) : Ev q X Φ pc ρ st h cu su := fun p l e s m args below meth c Q D b A n0 ad0 C ad ws tys H locs ls L S => lv_goto C.1.1 C.1.2.1 hd ht (k p l e s m args below meth c Q D b A n0 ad0 C ad ws tys H locs ls L S)
theorem Ev.tableOut {dflt lo hi : Int} {offs : Array Int} {len : Nat} {x : Int32} {tgt : Nat} (hd : decode (mb q) pc = .ok (.tableswitch dflt lo hi offs, len)) (hx : x.toInt < lo ∨ hi < x.toInt) (ht : (pc : Int) + dflt = (tgt : Int)) (k : Ev q X Φ tgt ρ st h cu su) : Ev q X Φ pc ρ (vi x :: st) h cu su := fun p l e s m args below meth c Q D b A n0 ad0 C ad ws tys H locs ls L S => lv_tableOut C.1.1 C.1.2.1 hd hx ht (k p l e s m args below meth c Q D b A n0 ad0 C ad ws tys H locs ls L S)
theorem Ev.tableIn {dflt lo hi : Int} {offs : Array Int} {len : Nat} {x : Int32} {off : Int} {tgt : Nat} (hd : decode (mb q) pc = .ok (.tableswitch dflt lo hi offs, len)) (h1 : ¬ x.toInt < lo) (h2 : ¬ hi < x.toInt) (ho : offs[(x.toInt - lo).toNat]? = some off) (ht : (pc : Int) + off = (tgt : Int)) (k : Ev q X Φ tgt ρ st h cu su) : Ev q X Φ pc ρ (vi x :: st) h cu su := fun p l e s m args below meth c Q D b A n0 ad0 C ad ws tys H locs ls L S => lv_tableIn C.1.1 C.1.2.1 hd h1 h2 ho ht (k p l e s m args below meth c Q D b A n0 ad0 C ad ws tys H locs ls L S)
theorem Ev.lookup {dflt : Int} {ps : Array (Int × Int)} {len : Nat} {x : Int32} {off : Int} {tgt : Nat} (hd : decode (mb q) pc = .ok (.lookupswitch dflt ps, len)) (hp : (ps.toList.zip (ps.toList.drop 1)).all (fun (a, next) => a.1 < next.1) = true) (ho : Op.lookupswitch.offset ps.toList dflt x.toInt = off) (ht : (pc : Int) + off = (tgt : Int)) (k : Ev q X Φ tgt ρ st h cu su) : Ev q X Φ pc ρ (vi x :: st) h cu su := fun p l e s m args below meth c Q D b A n0 ad0 C ad ws tys H locs ls L S => lv_lookup C.1.1 C.1.2.1 hd hp ho ht (k p l e s m args below meth c Q D b A n0 ad0 C ad ws tys H locs ls L S)
theorem Ev.topi {x : Int32} (k : ∀ y : Int32, y = x → Ev q X Φ pc ρ (vi y :: st) h cu su) : Ev q X Φ pc ρ (vi x :: st) h cu su := k x rfl
def lmask : List Bool → List (Option AV) → List (Option AV)
  | b :: bs, o :: r => (if b then o else none) :: lmask bs r
  | _, _ => []
theorem mask_get : ∀ (bs : List Bool) (r : List (Option AV)) (i : Nat) (v : AV), (lmask bs r)[i]? = some (some v) → r[i]? = some (some v)
  | [], r, i, v, hi => by simp [lmask] at hi
  | b :: bs, [], i, v, hi => by simp [lmask] at hi
  | b :: bs, o :: r, i, v, hi => by
    cases i with
    | zero =>
      cases b
      · simp [lmask] at hi
      · simpa [lmask] using hi
    | succ i =>
      have := mask_get bs r i v (by simpa [lmask] using hi)
      simpa using this
/-- fewer locals are known -/
theorem Ev.mask (bs : List Bool) {ρ' : List (Option AV)} (hρ : lmask bs ρ = ρ') (k : Ev q X Φ pc ρ' st h cu su) : Ev q X Φ pc ρ st h cu su := fun p l e s m args below meth c Q D b A n0 ad0 C ad ws tys H locs ls L S => k p l e s m args below meth c Q D b A n0 ad0 C ad ws tys H locs ls ⟨L.1, L.2.1, fun i v hi => L.2.2 i v (mask_get bs ρ i v (by rw [hρ]; exact hi))⟩ S
theorem Ev.widen {cu' su' : Nat} (h1 : cu ≤ cu') (h2 : su ≤ su') (k : Ev q X Φ pc ρ st h cu' su') : Ev q X Φ pc ρ st h cu su := fun p l e s m args below meth c Q D b A n0 ad0 C ad ws tys H locs ls L S => W.widen h1 h2 (k p l e s m args below meth c Q D b A n0 ad0 C ad ws tys H locs ls L S)
theorem Ev.post {Ψ : Option AV → List AC → Prop} (hΨ : ∀ r h', Ψ r h' → Φ r h') (k : Ev q X Ψ pc ρ st h cu su) : Ev q X Φ pc ρ st h cu su := fun p l e s m args below meth c Q D b A n0 ad0 C => k p l e s m args below meth c Q D b A n0 ad0 ⟨C.1, C.2.1, C.2.2.1, C.2.2.2.1, fun r h' ad' ws' tys' H' locs' pc' ls' cu su i hr => C.2.2.2.2 r h' ad' ws' tys' H' locs' pc' ls' cu su i (hΨ r h' hr)⟩
/-- the method's end -/
theorem Ev.ireturn {x : Int32} (hd : decode (mb q) pc = .ok (.ireturn, 1)) (hn : ∃ ty, mr q = some ty ∧ narrow ty (.int x) = .int x) (hc : cu ≤ (mR q).cells) (hs : su ≤ (mR q).slots) (k : Φ (some (vi x)) h) : Ev q X Φ pc ρ [vi x] h cu su := fun p l e s m args below meth c Q D b A n0 ad0 C ad ws tys H locs ls L S => C.2.2.2.2 (some (vi x)) h ad ws tys H locs pc ls cu su .ireturn k S hc hs hd rfl hn
theorem Ev.vreturn (hd : decode (mb q) pc = .ok (.return_, 1)) (hn : mr q = none) (hc : cu ≤ (mR q).cells) (hs : su ≤ (mR q).slots) (k : Φ none h) : Ev q X Φ pc ρ [] h cu su := fun p l e s m args below meth c Q D b A n0 ad0 C ad ws tys H locs ls L S => C.2.2.2.2 none h ad ws tys H locs pc ls cu su .return_ k S hc hs hd rfl hn
theorem Ev.areturn {i : Nat} (hd : decode (mb q) pc = .ok (.areturn, 1)) (hn : ∃ rt, mr q = some rt ∧ ((∃ n, rt = .object n) ∨ ∃ t, rt = .array t)) (hc : cu ≤ (mR q).cells) (hs : su ≤ (mR q).slots) (k : Φ (some (vr i)) h) : Ev q X Φ pc ρ [vr i] h cu su := fun p l e s m args below meth c Q D b A n0 ad0 C ad ws tys H locs ls L S => C.2.2.2.2 (some (vr i)) h ad ws tys H locs pc ls cu su .areturn k S hc hs hd rfl hn
end EvRows
end
section
theorem hc1_ws {b : Nat} {ad : Nat → Nat} {ws ws' : va_W} {tys : List (ClassId × FieldType)} {i : Nat} {c : AC} (e : ws'[i]? = ws[i]?) (hh : hc1 b ad ws tys i c) : hc1 b ad ws' tys i c := by
  rcases c with ⟨ty, n, f⟩ | ⟨ci, fs⟩
  · obtain ⟨cA, t0, h1, h2⟩ := hh
    exact ⟨cA, t0, e.trans h1, h2⟩
  · exact e.trans hh
theorem hm_set {b : Nat} {ad : Nat → Nat} {h : List AC} {ws : va_W} {tys : List (ClassId × FieldType)} {i : Nat} {c0 c : AC} {e : va_E} (hM : hm b ad h ws tys) (hi : h[i]? = some c0)
    (hc : ∀ ws' : va_W, ws'[i]? = some (ad i, e) → hc1 b ad ws' tys i c) : hm b ad (h.set i c) (ws.set i (ad i, e)) tys := by
  have hl : i < h.length := (List.getElem?_eq_some_iff.mp hi).1
  refine ⟨by simpa using hM.1, fun j cj hj => ?_⟩
  by_cases hij : j = i
  · subst hij
    rw [List.getElem?_set_self hl] at hj
    cases hj
    exact hc _ (List.getElem?_set_self (by rw [hM.1]; exact hl))
  · rw [List.getElem?_set_ne (Ne.symm hij)] at hj
    exact hc1_ws (List.getElem?_set_ne (Ne.symm hij)) (hM.2 j cj hj)
theorem hm_push {b : Nat} {ad ad' : Nat → Nat} {h : List AC} {ws : va_W} {tys tx : List (ClassId × FieldType)} {c : AC} {e : va_E} (hM : hm b ad h ws tys) (hag : agr h.length (h.length + 1) ad ad') (hok : h.all (okc h.length (h.length + 1)) = true)
    (hnew : hc1 b ad' (ws ++ [(ad' h.length, e)]) (tys ++ tx) h.length c) : hm b ad' (h ++ [c]) (ws ++ [(ad' h.length, e)]) (tys ++ tx) := by
  refine ⟨by simp [hM.1], fun j cj hj => ?_⟩
  by_cases hl : j < h.length
  · rw [List.getElem?_append_left hl] at hj
    have e1 : (ws ++ [(ad' h.length, e)])[j]? = ws[j]? := List.getElem?_append_left (by rw [hM.1]; exact hl)
    have e2 : ad' j = ad j := hag j (Or.inl hl)
    have h0 := hM.2 j cj hj
    have hk := List.all_eq_true.mp hok cj (List.mem_of_getElem? hj)
    rcases cj with ⟨ty, n, f⟩ | ⟨ci, fs⟩
    · obtain ⟨cA, t0, h1, h2⟩ := h0
      refine ⟨cA, t0, by rw [e1, e2]; exact h1, ?_⟩
      rw [List.getElem?_append_left (List.getElem?_eq_some_iff.mp h2).1]
      exact h2
    · show (ws ++ [(ad' h.length, e)])[j]? = some (ad' j, .inr (ci, fs.map (cv b ad')))
      rw [e1, e2, agr_map hag hk]
      exact h0
  · rw [List.getElem?_append_right (by omega)] at hj
    have hz : j - h.length < 1 := (List.getElem?_eq_some_iff.mp hj).1
    obtain rfl : j = h.length := by omega
    rw [Nat.sub_self] at hj
    cases hj
    exact hnew
def adx (ad : Nat → Nat) (n a : Nat) : Nat → Nat := fun i => if i = n then a else ad i
theorem adx_agr (ad : Nat → Nat) (n a : Nat) : agr n (n + 1) ad (adx ad n a) := fun i hi => if_neg (by omega)
theorem adx_at (ad : Nat → Nat) (n a : Nat) : adx ad n a n = a := if_pos rfl
theorem agr_push {n0 n : Nat} {ad0 ad ad' : Nat → Nat} (h : agr n0 n ad0 ad) (h1 : agr n (n + 1) ad ad') (hle : n0 ≤ n) : agr n0 (n + 1) ad0 ad' := fun i hi => by
  rw [h1 i (by omega)]
  exact h i (by omega)
theorem agr_trans {n0 n n' : Nat} {ad0 ad ad' : Nat → Nat} (h : agr n0 n ad0 ad) (h1 : agr n n' ad ad') (hle : n0 ≤ n) (hle' : n ≤ n') : agr n0 n' ad0 ad' := fun i hi => by
  rw [h1 i (by omega)]
  exact h i (by omega)
theorem cat_sum (b : Nat) (ad : Nat → Nat) (st : List AV) : ((st.map (cv b ad)).map fun v => v.category).sum = st.length := by
  induction st with
  | nil => rfl
  | cons v t ih =>
    simp only [List.map_cons, List.sum_cons, List.length_cons, ih, cv_cat]
    omega
/-- what a field of the type can hold -/
def okt : FieldType → AV → Prop
  | .int, .inl _ => True
  | .boolean, .inl x => x = 0 ∨ x = 1
  | .object _, .inr _ => True
  | .array _, .inr _ => True
  | _, _ => False
theorem okt_n {ty : FieldType} {v : AV} (hv : okt ty v) (b : Nat) (ad : Nat → Nat) : narrow ty (cv b ad v) = cv b ad v ∧ fits ty (cv b ad v) = true := by
  rcases v with x | (_ | _) | i <;> cases ty <;> simp only [okt] at hv <;> first | exact ⟨rfl, rfl⟩ | (rcases hv with rfl | rfl <;> exact ⟨rfl, rfl⟩)
def LF (own : String) (idx : Nat) (f : String × String × String × Bool) : Prop := Cond.fieldLink own idx f.1 f.2.1 f.2.2.1 ∈ Wt ∨ ∃ host, Cond.fieldLinkNest own idx f.1 f.2.1 f.2.2.1 host ∈ Wt
def FG (own : String) (idx ci k : Nat) : Prop := ∃ (C : String) (T : u_T) (N : Nat), vwCl[ci]? = some (C, T, N) ∧ (∀ w ∈ u_ws C T N, w ∈ Wt) ∧ k < N ∧ LF own idx (T k)
def FP (own : String) (idx ci k : Nat) (ty : FieldType) (fin : Bool) : Prop := ∃ (C : String) (T : u_T) (N : Nat) (ty0 : Nat → FieldType), vwCl[ci]? = some (C, T, N) ∧ (∀ w ∈ u_ws C T N, w ∈ Wt) ∧ (∀ k, k < N → parseFieldDescriptor (T k).2.2.1 = some (ty0 k)) ∧ (∀ a, a < N → ∀ b, b < N → a ≠ b → (T a).2.1 ≠ (T b).2.1) ∧ k < N ∧ Cond.fieldLink own idx (T k).1 (T k).2.1 (T k).2.2.1 ∈ Wt ∧ (T k).2.2.2 = fin ∧ (T k).1 = own ∧ parseFieldDescriptor (T k).2.2.1 = some ty
def FPo (own : String) (idx ci k : Nat) (ty : FieldType) : Prop := ∃ (C : String) (T : u_T) (N : Nat) (ty0 : Nat → FieldType), vwCl[ci]? = some (C, T, N) ∧ (∀ w ∈ u_ws C T N, w ∈ Wt) ∧ (∀ k, k < N → parseFieldDescriptor (T k).2.2.1 = some (ty0 k)) ∧ (∀ a, a < N → ∀ b, b < N → a ≠ b → (T a).2.1 ≠ (T b).2.1) ∧ k < N ∧ LF own idx (T k) ∧ (T k).2.2.2 = false ∧ parseFieldDescriptor (T k).2.2.1 = some ty
def NK (own : String) (idx ci N : Nat) (dfl : List AV) : Prop := ∃ (C : String) (T : u_T) (ty : Nat → FieldType), vwCl[ci]? = some (C, T, N) ∧ (∀ w ∈ u_ws C T N, w ∈ Wt) ∧ (∀ k, k < N → parseFieldDescriptor (T k).2.2.1 = some (ty k)) ∧ Cond.classLink own idx C ∈ Wt ∧ Cond.instantiable C N ∈ Wt ∧ Cond.initialized C ∈ Wt ∧ ∀ (b : Nat) (ad : Nat → Nat) (j : Nat), j < N → defaultValue (ty j) = vp_V (dfl.map (cv b ad)) j
section EvHeap
variable {q : MI} {X : Option (Nat × (Nat → Int32))} {Φ : Option AV → List AC → Prop} {pc : Nat} {ρ : List (Option AV)} {st : List AV} {h : List AC} {cu su : Nat}
theorem Ev.get {idx i ci k : Nat} {fs : List AV} {v : AV} (hd : decode (mb q) pc = .ok (.getfield idx, 3)) (hf : FG (my q).cls idx ci k) (ho : h[i]? = some (ao ci fs)) (hv : fs[k]? = some v) (kk : Ev q X Φ (pc + 3) ρ (v :: st) h cu su) : Ev q X Φ pc ρ (vr i :: st) h cu su := by
  intro p l e s m args below meth c Q D b A n0 ad0 C ad ws tys H locs ls L S
  obtain ⟨C0, T, N, hc, hin, hk, hl | ⟨host, hl⟩⟩ := hf
  · exact va_get C.1.1 C.1.2.1 C.1.2.2.2.2 hin C.1.2.2.2.1 S.2.2.1 S.2.1 i (S.1.2 i _ ho) hc k hk (C.1.2.2.2.2 _ hl) (fun _ h9 => h9) (by rw [List.getElem?_map, hv]; rfl) hd (kk p l e s m args below meth c Q D b A n0 ad0 C ad ws tys H locs ls L S)
  · exact va_getN C.1.1 C.1.2.1 C.1.2.2.2.2 hin C.1.2.2.2.1 S.2.2.1 S.2.1 i (S.1.2 i _ ho) hc k hk (C.1.2.2.2.2 _ hl) (fun _ h9 => h9) (by rw [List.getElem?_map, hv]; rfl) hd (kk p l e s m args below meth c Q D b A n0 ad0 C ad ws tys H locs ls L S)
theorem Ev.put {idx i ci k : Nat} {ty : FieldType} {fs : List AV} {v : AV} {h' : List AC} (hd : decode (mb q) pc = .ok (.putfield idx, 3)) (hf : FPo (my q).cls idx ci k ty) (hw : okt ty v) (ho : h[i]? = some (ao ci fs)) (hl : k < fs.length) (hh : h.set i (ao ci (fs.set k v)) = h') (kk : Ev q X Φ (pc + 3) ρ st h' cu su) : Ev q X Φ pc ρ (v :: vr i :: st) h cu su := by
  intro p l e s m args below meth c Q D b A n0 ad0 C ad ws tys H locs ls L S
  obtain ⟨C0, T, N, ty0, hc, hin, hty, hnm, hk, hlk, hfin, hd2⟩ := hf
  obtain ⟨hM, hP, hK, hD, hS, hag, hle⟩ := S
  subst hh
  have eS : (fs.set k v).map (cv b ad) = (fs.map (cv b ad)).set k (cv b ad v) := List.map_set
  have go : ∀ (H1 : Heap) (locs1 : List Loc), va_P D vwCl (ws.set i (ad i, .inr (ci, (fs.map (cv b ad)).set k (cv b ad v)))) H1 → va_D A (ws.set i (ad i, .inr (ci, (fs.map (cv b ad)).set k (cv b ad v)))) → va_S A s.heap H1 locs1 → W p l e (mR q) s m args below meth c H1 locs1 cu su Q (F0 m (pc + 3) ls (st.map (cv b ad))) := by
    intro H1 locs1 hP1 hD1 hS1
    refine kk p l e s m args below meth c Q D b A n0 ad0 C ad _ tys H1 locs1 ls L ⟨hm_set hM ho (fun ws' hw' => ?_), hP1, hK, hD1, hS1, by simpa using hag, by simpa using hle⟩
    show ws'[i]? = some (ad i, .inr (ci, (fs.set k v).map (cv b ad)))
    rw [eS]
    exact hw'
  rcases hlk with hlk | ⟨host, hlk⟩
  · exact va_put C.1.1 C.1.2.1 C.1.2.2.2.2 hin ty0 hty hnm C.1.2.2.2.1 hK hP hD hS i (hM.2 i _ ho) hc k hk (C.1.2.2.2.2 _ hlk) (fun _ h9 => h9) hfin hd2 (okt_n hw b ad).1 (okt_n hw b ad).2 (by simpa using hl) hd go
  · exact va_putN C.1.1 C.1.2.1 C.1.2.2.2.2 hin ty0 hty hnm C.1.2.2.2.1 hK hP hD hS i (hM.2 i _ ho) hc k hk (C.1.2.2.2.2 _ hlk) (fun _ h9 => h9) hfin hd2 (okt_n hw b ad).1 (okt_n hw b ad).2 (by simpa using hl) hd go
theorem Ev.putF {idx i ci k : Nat} {ty : FieldType} {fs : List AV} {v : AV} {h' : List AC} (hd : decode (mb q) pc = .ok (.putfield idx, 3)) (hf : FP (my q).cls idx ci k ty true) (hi : (my q).name = "<init>") (hw : okt ty v) (ho : h[i]? = some (ao ci fs)) (hl : k < fs.length) (hh : h.set i (ao ci (fs.set k v)) = h') (kk : Ev q X Φ (pc + 3) ρ st h' cu su) : Ev q X Φ pc ρ (v :: vr i :: st) h cu su := by
  intro p l e s m args below meth c Q D b A n0 ad0 C ad ws tys H locs ls L S
  obtain ⟨C0, T, N, ty0, hc, hin, hty, hnm, hk, hlk, hfin, hdecl, hd2⟩ := hf
  obtain ⟨hM, hP, hK, hD, hS, hag, hle⟩ := S
  subst hh
  have eS : (fs.set k v).map (cv b ad) = (fs.map (cv b ad)).set k (cv b ad v) := List.map_set
  refine va_putF C.1.1 C.1.2.1 C.1.2.2.2.2 hin ty0 hty hnm C.1.2.2.2.1 hK hP hD hS i (hM.2 i _ ho) hc k hk (C.1.2.2.2.2 _ hlk) (fun _ h9 => h9) hfin (C.2.1.1.trans hi) hdecl hd2 (okt_n hw b ad).1 (okt_n hw b ad).2 (by simpa using hl) hd (fun H1 locs1 hP1 hD1 hS1 => ?_)
  refine kk p l e s m args below meth c Q D b A n0 ad0 C ad _ tys H1 locs1 ls L ⟨hm_set hM ho (fun ws' hw' => ?_), hP1, hK, hD1, hS1, by simpa using hag, by simpa using hle⟩
  show ws'[i]? = some (ad i, .inr (ci, (fs.set k v).map (cv b ad)))
  rw [eS]
  exact hw'
theorem Ev.iald {i n : Nat} {f : Nat → Int32} {x : Int32} (hd : decode (mb q) pc = .ok (.iaload, 1)) (ha : h[i]? = some (ai .int n f)) (hin : vp_in x n) (kk : Ev q X Φ (pc + 1) ρ (vi (f x.toNatClampNeg) :: st) h cu su) : Ev q X Φ pc ρ (vi x :: vr i :: st) h cu su := by
  intro p l e s m args below meth c Q D b A n0 ad0 C ad ws tys H locs ls L S
  obtain ⟨cA, t0, h1, h2⟩ := S.1.2 i _ ha
  exact va_iald C.1.1 C.1.2.1 S.2.2.1 S.2.1 i t0 h1 h2 hin hd (kk p l e s m args below meth c Q D b A n0 ad0 C ad ws tys H locs ls L S)
theorem Ev.zald {i n : Nat} {f : Nat → Int32} {x : Int32} (hd : decode (mb q) pc = .ok (.baload, 1)) (ha : h[i]? = some (ai .boolean n f)) (hin : vp_in x n) (kk : Ev q X Φ (pc + 1) ρ (vi (f x.toNatClampNeg) :: st) h cu su) : Ev q X Φ pc ρ (vi x :: vr i :: st) h cu su := by
  intro p l e s m args below meth c Q D b A n0 ad0 C ad ws tys H locs ls L S
  obtain ⟨cA, t0, h1, h2⟩ := S.1.2 i _ ha
  exact va_zald C.1.1 C.1.2.1 S.2.2.1 S.2.1 i t0 h1 h2 hin hd (kk p l e s m args below meth c Q D b A n0 ad0 C ad ws tys H locs ls L S)
theorem Ev.iast {i n : Nat} {f : Nat → Int32} {x y : Int32} {h' : List AC} (hd : decode (mb q) pc = .ok (.iastore, 1)) (ha : h[i]? = some (ai .int n f)) (hin : vp_in x n) (hh : h.set i (ai .int n (upd f x.toNatClampNeg y)) = h') (kk : Ev q X Φ (pc + 1) ρ st h' cu su) : Ev q X Φ pc ρ (vi y :: vi x :: vr i :: st) h cu su := by
  intro p l e s m args below meth c Q D b A n0 ad0 C ad ws tys H locs ls L S
  obtain ⟨hM, hP, hK, hD, hS, hag, hle⟩ := S
  obtain ⟨cA, t0, h1, h2⟩ := hM.2 i _ ha
  subst hh
  refine va_iast C.1.1 C.1.2.1 hK hP hD hS i t0 h1 h2 hin hd (fun H1 locs1 hP1 hD1 hS1 => ?_)
  exact kk p l e s m args below meth c Q D b A n0 ad0 C ad _ tys H1 locs1 ls L ⟨hm_set hM ha (fun ws' hw' => ⟨cA, t0, hw', h2⟩), hP1, hK, hD1, hS1, by simpa using hag, by simpa using hle⟩
theorem Ev.zast {i n : Nat} {f : Nat → Int32} {x y : Int32} {h' : List AC} (hd : decode (mb q) pc = .ok (.bastore, 1)) (ha : h[i]? = some (ai .boolean n f)) (hin : vp_in x n) (hy : vp_nar .boolean y = y) (hh : h.set i (ai .boolean n (upd f x.toNatClampNeg y)) = h') (kk : Ev q X Φ (pc + 1) ρ st h' cu su) : Ev q X Φ pc ρ (vi y :: vi x :: vr i :: st) h cu su := by
  intro p l e s m args below meth c Q D b A n0 ad0 C ad ws tys H locs ls L S
  obtain ⟨hM, hP, hK, hD, hS, hag, hle⟩ := S
  obtain ⟨cA, t0, h1, h2⟩ := hM.2 i _ ha
  subst hh
  refine va_zast C.1.1 C.1.2.1 hK hP hD hS i t0 h1 h2 hin hd (fun H1 locs1 hP1 hD1 hS1 => ?_)
  rw [hy] at hP1 hD1
  exact kk p l e s m args below meth c Q D b A n0 ad0 C ad _ tys H1 locs1 ls L ⟨hm_set hM ha (fun ws' hw' => ⟨cA, t0, hw', h2⟩), hP1, hK, hD1, hS1, by simpa using hag, by simpa using hle⟩
theorem Ev.alen {i n : Nat} {ty : FieldType} {f : Nat → Int32} {v : Int32} (hd : decode (mb q) pc = .ok (.arraylength, 1)) (ha : h[i]? = some (ai ty n f)) (hv : Int32.ofNat n = v) (kk : Ev q X Φ (pc + 1) ρ (vi v :: st) h cu su) : Ev q X Φ pc ρ (vr i :: st) h cu su := by
  intro p l e s m args below meth c Q D b A n0 ad0 C ad ws tys H locs ls L S
  obtain ⟨cA, t0, h1, h2⟩ := S.1.2 i _ ha
  exact va_alen C.1.1 C.1.2.1 S.2.2.1 S.2.1 i t0 h1 h2 hv hd (kk p l e s m args below meth c Q D b A n0 ad0 C ad ws tys H locs ls L S)
theorem Ev.sld {L0 : Nat} {xs : Nat → Int32} {x : Int32} (hX : X = some (L0, xs)) (hd : decode (mb q) pc = .ok (.iaload, 1)) (hin : vp_in x L0) (kk : Ev q X Φ (pc + 1) ρ (vi (xs x.toNatClampNeg) :: st) h cu su) : Ev q X Φ pc ρ (vi x :: vs :: st) h cu su := by
  intro p l e s m args below meth c Q D b A n0 ad0 C ad ws tys H locs ls L S
  obtain ⟨h1, h2, h3⟩ := C.2.2.2.1 L0 xs hX
  exact va_sld C.1.1 C.1.2.1 h1 h2 h3 S.2.2.2.2.1 hin hd (kk p l e s m args below meth c Q D b A n0 ad0 C ad ws tys H locs ls L S)
theorem Ev.slen {L0 : Nat} {xs : Nat → Int32} (hX : X = some (L0, xs)) (hd : decode (mb q) pc = .ok (.arraylength, 1)) (kk : Ev q X Φ (pc + 1) ρ (vi (Int32.ofNat L0) :: st) h cu su) : Ev q X Φ pc ρ (vs :: st) h cu su := by
  intro p l e s m args below meth c Q D b A n0 ad0 C ad ws tys H locs ls L S
  obtain ⟨h1, h2, h3⟩ := C.2.2.2.1 L0 xs hX
  exact va_slen C.1.1 C.1.2.1 h1 h2 h3 S.2.2.2.2.1 hd (kk p l e s m args below meth c Q D b A n0 ad0 C ad ws tys H locs ls L S)
theorem Ev.newa {at0 : ArrayType} {ty : FieldType} {x : Int32} {N n : Nat} {h' : List AC} (hd : decode (mb q) pc = .ok (.newarray at0, 2)) (hty : newarray.typeOf at0 = ty) (hdf : defaultValue ty = .int 0) (hw : Cond.arrayClass ty ∈ Wt) (hx : ¬ x < 0) (hN : x.toNatClampNeg = N) (hb : N * componentBytes ty ≤ 536870912) (hc : cu + 1 ≤ (mR q).cells) (hs : su + N ≤ (mR q).slots)
    (hn : h.length = n) (hok : okS n (n + 1) ρ st h = true) (hh : h ++ [ai ty N (fun _ => 0)] = h') (kk : Ev q X Φ (pc + 2) ρ (vr n :: st) h' (cu + 1) (su + N)) : Ev q X Φ pc ρ (vi x :: st) h cu su := by
  intro p l e s m args below meth c Q D b A n0 ad0 C ad ws tys H locs ls L S
  obtain ⟨hM, hP, hK, hD, hS, hag, hle⟩ := S
  subst hty; subst hh; subst hn
  simp only [okS, Bool.and_eq_true] at hok
  refine va_newa (a0 := (N, .inl (fun _ => 0))) C.1.1 C.1.2.1 (C.1.2.2.2.2 _ hw) rfl hK hP hD hS C.2.2.1 (fun cA => by rw [hdf]; rfl) hx hN hb hc hs hd (fun a cA H1 hK1 hP1 hD1 hS1 => ?_)
  have hag1 := adx_agr ad h.length a
  have ea := adx_at ad h.length a
  have est : (vr h.length :: st).map (cv b (adx ad h.length a)) = .ref a :: st.map (cv b ad) := by
    rw [List.map_cons, agr_map hag1 hok.1.2]
    show Value.ref (adx ad h.length a h.length) :: _ = _
    rw [ea]
  rw [← ea] at hP1 hD1
  rw [← est]
  refine kk p l e s m args below meth c Q D b A n0 ad0 C (adx ad h.length a) _ _ H1 locs ls (agr_lm hag1 hok.1.1 L) ⟨hm_push hM hag1 hok.2 ⟨cA, tys.length, ?_, ?_⟩, hP1, hK1, hD1, hS1, ?_, ?_⟩
  · rw [← hM.1, List.getElem?_append_right (Nat.le_refl _), Nat.sub_self]; rfl
  · rw [List.getElem?_append_right (Nat.le_refl _), Nat.sub_self]; rfl
  · rw [List.length_append]; exact agr_push hag hag1 hle
  · rw [List.length_append]; omega
theorem Ev.new {idx ci N n : Nat} {dfl : List AV} {h' : List AC} (hd : decode (mb q) pc = .ok (.new idx, 3)) (hk : NK (my q).cls idx ci N dfl) (hc : cu + 1 ≤ (mR q).cells) (hs : su + N ≤ (mR q).slots) (hn : h.length = n) (hok : okS n (n + 1) ρ st h = true) (hdok : dfl.all (okv n (n + 1)) = true)
    (hh : h ++ [ao ci dfl] = h') (kk : Ev q X Φ (pc + 3) ρ (vr n :: st) h' (cu + 1) (su + N)) : Ev q X Φ pc ρ st h cu su := by
  intro p l e s m args below meth c Q D b A n0 ad0 C ad ws tys H locs ls L S
  obtain ⟨hM, hP, hK, hD, hS, hag, hle⟩ := S
  obtain ⟨C0, T, ty, hcl, hin, hty, hlk, hins, hini, hdf⟩ := hk
  subst hh; subst hn
  simp only [okS, Bool.and_eq_true] at hok
  refine va_new (fs := dfl.map (cv b ad)) C.1.1 C.1.2.1 C.1.2.2.2.2 hin ty hty C.1.2.2.2.1 (C.1.2.2.2.2 _ hlk) (C.1.2.2.2.2 _ hins) (C.1.2.2.2.2 _ hini) hK hP hD hS C.2.2.1 hcl (hdf b ad) hc hs hd (fun a H1 hP1 hD1 hS1 => ?_)
  have hag1 := adx_agr ad h.length a
  have ea := adx_at ad h.length a
  have est : (vr h.length :: st).map (cv b (adx ad h.length a)) = .ref a :: st.map (cv b ad) := by
    rw [List.map_cons, agr_map hag1 hok.1.2]
    show Value.ref (adx ad h.length a h.length) :: _ = _
    rw [ea]
  rw [← ea] at hP1 hD1
  rw [← est]
  have hM1 := hm_push (tx := []) (c := ao ci dfl) (e := .inr (ci, dfl.map (cv b ad))) hM hag1 hok.2 (by
    show (ws ++ [(adx ad h.length a h.length, .inr (ci, dfl.map (cv b ad)))])[h.length]? = some (adx ad h.length a h.length, .inr (ci, dfl.map (cv b (adx ad h.length a))))
    rw [agr_map hag1 hdok, ← hM.1, List.getElem?_append_right (Nat.le_refl _), Nat.sub_self]; rfl)
  rw [List.append_nil] at hM1
  refine kk p l e s m args below meth c Q D b A n0 ad0 C (adx ad h.length a) _ _ H1 locs ls (agr_lm hag1 hok.1.1 L) ⟨hM1, hP1, hK, hD1, hS1, ?_, ?_⟩
  · rw [List.length_append]; exact agr_push hag hag1 hle
  · rw [List.length_append]; omega
theorem Ev.objInit {idx i : Nat} (hd : decode (mb q) pc = .ok (.invokespecial idx, 3)) (hl : Cond.methodLink (my q).cls idx objectInit ∈ Wt) (hi : Cond.instanceMethod objectInit ∈ Wt) (hco : Cond.code objectInit ⟨#[0xb1]⟩ 1 none ∈ Wt) (hfr : 1 ≤ (mR q).frames) (hlo : st.length + 12 ≤ (mR q).locals) (k : Ev q X Φ (pc + 3) ρ st h cu su) : Ev q X Φ pc ρ (vr i :: st) h cu su := by
  intro p l e s m args below meth c Q D b A n0 ad0 C ad ws tys H locs ls L S
  refine W.objInit C.1.1 C.1.2.1 C.1.2.2.2.1 (C.1.2.2.2.2 _ hl) (C.1.2.2.2.2 _ hi) (C.1.2.2.2.2 _ hco) rfl (by rw [C.1.2.2.1]; exact L.1) (a := ad i) (rest := st.map (cv b ad)) rfl hd hfr ?_ (k p l e s m args below meth c Q D b A n0 ad0 C ad ws tys H locs ls L S)
  rw [cat_sum]
  show 2 * 0 + st.length + 12 ≤ _
  omega
end EvHeap
end
section
theorem evm_blind {av : List Value} {sz : Nat} {D : va_G} {ws : va_W} {tys : List (ClassId × FieldType)} : FrameBlind (va_Pc av (fun U => U.heap.size = sz ∧ va_P D vwCl ws U.heap ∧ va_K D vwCl tys U ∧ va_D (fun _ => True) ws ∧ NN U)) :=
  fun a U g mk ⟨q0, q1, qP, qK, qD, qN⟩ => ⟨q0, q1, qP, va_K.moved (u := U) (U := U.calling g mk a) (Vm.Alike.refl U.vm) qK, qD, NN.same (s := U) (U := U.calling g mk a) rfl qN⟩
def LM (own : String) (idx : Nat) (y : MethodName) : Prop := Cond.methodLink own idx y ∈ Wt ∨ ∃ host, Cond.methodLinkNest own idx y host ∈ Wn
def MK (j : MI) (n : Nat) : Prop := Cond.code (my j) (mb j) (ml j) (mr j) ∈ Wt ∧ Cond.initialized (my j).cls ∈ Wt ∧ (my j).cls ≠ "java/lang/invoke/MethodHandle" ∧ (my j).cls ≠ "java/lang/invoke/VarHandle" ∧ (parseMethodDescriptor (my j).desc).map (fun d => d.parameters.length) = some n
def MV (j : MI) : Prop := Cond.instanceMethod (my j) ∈ Wt ∧ Cond.selects (my j).cls (my j) (my j) ∈ Wt
def Rle (j q : MI) : Prop := (mR j).frames + 1 ≤ (mR q).frames ∧ 8 + (ml j + 11) + (mR j).locals ≤ (mR q).locals
section EvCall
variable {q : MI} {X : Option (Nat × (Nat → Int32))} {Φ : Option AV → List AC → Prop} {pc : Nat} {ρ : List (Option AV)} {st : List AV} {h : List AC} {cu su : Nat}
/-- behind a call -/
theorem ev_back {j : MI} {Φ' : Option AV → List AC → Prop} {p : Program} {l : Launch} {e : Env} {s : State} {m : MethodId} {args : Array Value} {below : List Frame} {meth : Method} {c : Code} {Q : State → Prop} {D : va_G} {b : Nat} {A : Nat → Prop} {n0 : Nat} {ad0 : Nat → Nat}
    (C : Cx q X Φ p l e s m args below meth c Q D b A n0 ad0) {ad : Nat → Nat} {ws : va_W} {tys : List (ClassId × FieldType)} {H : Heap} {locs : List Loc} {ls : Array Slot} (L : lm b ad (ml q) ρ ls) (S : St q D b A s n0 ad0 ad h ws tys H locs) {st0 : List Value} {a : Array Value}
    (hr : va_Run p l e (mR q) s m args below meth c H locs cu su (mR j).cells (mR j).slots (F0 m pc ls st0) (st.map (cv b ad)) (QM D b ad h.length Φ' (va_A ws H.size) a) (va_A ws H.size))
    (hok : ∀ r h', Φ' r h' → h'.length = h.length ∨ (ρ.all (oko h.length h'.length) && st.all (okv h.length h'.length)) = true)
    (kk : ∀ r h', Φ' r h' → Ev q X Φ (pc + 3) ρ (r.toList ++ st) h' (cu + (mR j).cells) (su + (mR j).slots)) :
    W p l e (mR q) s m args below meth c H locs cu su Q (F0 m pc ls st0) := by
  obtain ⟨hM, hP, hK, hD, hS, hag, hle⟩ := S
  intro T hT Xs
  obtain ⟨v, st₀, t, T', L', h0, X', hL, e1, e2, ⟨⟨r, h', ad', ws', tys', hv, hΦ, hag1, hle1, hM', hP', hK', hD'⟩, hz, hkeep⟩, stp⟩ := hr T hT Xs
  have hv : v = r.map (cv b ad') := by injection hv
  subst hv
  rw [h0] at hz hkeep
  have hA : ∀ x : Nat, va_A ws H.size x → A x := fun x hx => by
    rcases hx with ⟨k, e, hx⟩ | hx
    · exact hD.2 k _ hx
    · exact C.2.2.1 x (Nat.le_trans hS.1 hx)
  have hS1 : va_S A s.heap T'.heap (locs ++ L') := by
    refine ⟨Nat.le_trans hS.1 (by rw [e1]; exact hz), fun x h1 h2 => ?_, fun x hx => ?_⟩
    · rw [e1, hkeep x (Nat.lt_of_lt_of_le h1 hS.1) (fun z => h2 (hA x z))]
      exact hS.2.1 x h1 h2
    · rcases List.mem_append.mp hx with hx | hx
      · exact hS.2.2 x hx
      · exact hA _ (hL x hx)
  have hLst : lm b ad' (ml q) ρ ls ∧ st.map (cv b ad') = st.map (cv b ad) := by
    rcases hok r h' hΦ with g | g
    · rw [g] at hag1
      rw [agr_eq hag1]
      exact ⟨L, rfl⟩
    · rw [Bool.and_eq_true] at g
      exact ⟨agr_lm hag1 g.1 L, agr_map hag1 g.2⟩
  have est : (r.map (cv b ad')).toList ++ st.map (cv b ad) = (r.toList ++ st).map (cv b ad') := by
    rw [List.map_append, hLst.2]
    cases r <;> rfl
  have hal : t.vm.Alike s.vm := by
    rw [← e2]
    exact X'.warmed.alike.symm
  obtain ⟨t2, a1, b1⟩ := kk r h' hΦ p l e s m args below meth c Q D b A n0 ad0 C ad' ws' tys' T'.heap (locs ++ L') ls hLst.1 ⟨hM', by rw [e1]; exact hP', va_K.moved hal hK', hD'.weaken (fun _ _ _ hx => hA _ hx), hS1, agr_trans hag hag1 hle hle1, Nat.le_trans hle hle1⟩ T' rfl X'
  refine ⟨t2, stp t2 ?_, b1⟩
  rw [est]
  exact a1
theorem Ev.callV {j : MI} {Φ' : Option AV → List AC → Prop} {idx i ci n : Nat} {T0 : u_T} {N0 : Nat} {As stk fs : List AV} (hj : EvM j (vr i :: As) h Φ') (hd : decode (mb q) pc = .ok (.invokevirtual idx, 3)) (hl : LM (my q).cls idx (my j)) (hm : MK j n) (hv : MV j) (hR : Rle j q) (ho : h[i]? = some (ao ci fs)) (hcl : vwCl[ci]? = some ((my j).cls, T0, N0))
    (hs : stk = As.reverse ++ vr i :: st) (hn : As.length = n) (hst : st.length ≤ 8) (hc : cu + (mR j).cells ≤ (mR q).cells ∧ su + (mR j).slots ≤ (mR q).slots)
    (hok : ∀ r h', Φ' r h' → h'.length = h.length ∨ (ρ.all (oko h.length h'.length) && st.all (okv h.length h'.length)) = true)
    (kk : ∀ r h', Φ' r h' → Ev q X Φ (pc + 3) ρ (r.toList ++ st) h' (cu + (mR j).cells) (su + (mR j).slots)) : Ev q X Φ pc ρ stk h cu su := by
  intro p l e s m args below meth c Q D b A n0 ad0 C ad ws tys H locs ls L S
  subst hs
  obtain ⟨hM, hP, hK, hD, hS, hag, hle⟩ := id S
  obtain ⟨hcode, hini, hx1, hx2, hpar⟩ := hm
  have hrec := va_recv hK hP hcl (hM.2 i _ ho)
  have hpre : PreV s H (my j).cls (ad i) (va_Pc ((vr i :: As).map (cv b ad)) (fun U => U.heap.size = H.size ∧ va_P D vwCl ws U.heap ∧ va_K D vwCl tys U ∧ va_D (fun _ => True) ws ∧ NN U)) (As.map (cv b ad)) :=
    ⟨evm_blind, hrec, fun U hU hW => ⟨rfl, by rw [hU], by rw [hU]; exact hP, va_K.moved hW.alike hK, hD.weaken (fun _ _ _ _ => trivial), NN.warm hW C.2.1.2⟩⟩
  have hstack : (F0 m pc ls ((As.reverse ++ vr i :: st).map (cv b ad))).stack = (As.map (cv b ad)).reverse ++ .ref (ad i) :: st.map (cv b ad) := by
    show (As.reverse ++ vr i :: st).map (cv b ad) = _
    rw [List.map_append, List.map_reverse]
    rfl
  have hroom : 2 * (F0 m pc ls ((As.reverse ++ vr i :: st).map (cv b ad))).monitorRoom + ((st.map (cv b ad)).map fun v => v.category).sum ≤ 8 := by
    rw [cat_sum]
    show 2 * 0 + _ ≤ 8
    omega
  have hlen : (As.map (cv b ad)).length = n := by rw [List.length_map]; exact hn
  refine ev_back (j := j) (a := (Value.ref (ad i) :: As.map (cv b ad)).toArray) C L S ?_ hok kk
  rcases hl with hl | ⟨host, hl⟩
  · exact va_runV ⟨C.1.1, C.1.2.1, C.1.2.2.1, C.1.2.2.2.1, C.1.2.2.2.2⟩ (hj l D b ad ws tys H.size hM)
      ⟨callB_of n C.1.2.2.2.2 (Ww_good hcode) rfl rfl rfl (C.1.2.2.2.2 _ hini) (C.1.2.2.2.2 _ hl) ⟨hx1, hx2, hpar⟩ hR, C.1.2.2.2.2 _ hv.1, C.1.2.2.2.2 _ hv.2⟩ hpre rfl hlen L.1 hstack hroom hd hc
  · exact va_runVN ⟨C.1.1, C.1.2.1, C.1.2.2.1, C.1.2.2.2.1, C.1.2.2.2.2⟩ (hj l D b ad ws tys H.size hM)
      ⟨va_cnB n C.1.2.2.2.2 (Ww_good hcode) rfl rfl rfl (C.2.1.2 _ hl) (C.1.2.2.2.2 _ hini) ⟨hx1, hx2, hpar⟩ hR, C.1.2.2.2.2 _ hv.1, C.1.2.2.2.2 _ hv.2⟩ hpre rfl hlen L.1 hstack hroom hd hc
theorem Ev.callS {j : MI} {Φ' : Option AV → List AC → Prop} {idx n : Nat} {As stk : List AV} (hj : EvM j As h Φ') (hd : decode (mb q) pc = .ok (.invokestatic idx, 3)) (hl : LM (my q).cls idx (my j)) (hm : MK j n) (hv : Cond.static (my j) ∈ Wt) (hR : Rle j q)
    (hs : stk = As.reverse ++ st) (hn : As.length = n) (hst : st.length ≤ 8) (hc : cu + (mR j).cells ≤ (mR q).cells ∧ su + (mR j).slots ≤ (mR q).slots)
    (hok : ∀ r h', Φ' r h' → h'.length = h.length ∨ (ρ.all (oko h.length h'.length) && st.all (okv h.length h'.length)) = true)
    (kk : ∀ r h', Φ' r h' → Ev q X Φ (pc + 3) ρ (r.toList ++ st) h' (cu + (mR j).cells) (su + (mR j).slots)) : Ev q X Φ pc ρ stk h cu su := by
  intro p l e s m args below meth c Q D b A n0 ad0 C ad ws tys H locs ls L S
  subst hs
  obtain ⟨hM, hP, hK, hD, hS, hag, hle⟩ := id S
  obtain ⟨hcode, hini, hx1, hx2, hpar⟩ := hm
  have hpre : PreS s H (va_Pc (As.map (cv b ad)) (fun U => U.heap.size = H.size ∧ va_P D vwCl ws U.heap ∧ va_K D vwCl tys U ∧ va_D (fun _ => True) ws ∧ NN U)) (As.map (cv b ad)) :=
    ⟨evm_blind, fun U hU hW => ⟨rfl, by rw [hU], by rw [hU]; exact hP, va_K.moved hW.alike hK, hD.weaken (fun _ _ _ _ => trivial), NN.warm hW C.2.1.2⟩⟩
  have hstack : (F0 m pc ls ((As.reverse ++ st).map (cv b ad))).stack = (As.map (cv b ad)).reverse ++ st.map (cv b ad) := by
    show (As.reverse ++ st).map (cv b ad) = _
    rw [List.map_append, List.map_reverse]
  have hroom : 2 * (F0 m pc ls ((As.reverse ++ st).map (cv b ad))).monitorRoom + ((st.map (cv b ad)).map fun v => v.category).sum ≤ 8 := by
    rw [cat_sum]
    show 2 * 0 + _ ≤ 8
    omega
  have hlen : (As.map (cv b ad)).length = n := by rw [List.length_map]; exact hn
  refine ev_back (j := j) (a := (As.map (cv b ad)).toArray) C L S ?_ hok kk
  rcases hl with hl | ⟨host, hl⟩
  · exact va_runS ⟨C.1.1, C.1.2.1, C.1.2.2.1, C.1.2.2.2.1, C.1.2.2.2.2⟩ (hj l D b ad ws tys H.size hM)
      ⟨callB_of n C.1.2.2.2.2 (Ww_good hcode) rfl rfl rfl (C.1.2.2.2.2 _ hini) (C.1.2.2.2.2 _ hl) ⟨hx1, hx2, hpar⟩ hR, C.1.2.2.2.2 _ hv⟩ hpre rfl hlen L.1 hstack hroom hd hc
  · exact va_runSN ⟨C.1.1, C.1.2.1, C.1.2.2.1, C.1.2.2.2.1, C.1.2.2.2.2⟩ (hj l D b ad ws tys H.size hM)
      ⟨va_cnB n C.1.2.2.2.2 (Ww_good hcode) rfl rfl rfl (C.2.1.2 _ hl) (C.1.2.2.2.2 _ hini) ⟨hx1, hx2, hpar⟩ hR, C.1.2.2.2.2 _ hv, trivial⟩ hpre rfl hlen L.1 hstack hroom hd hc
theorem Ev.callI {j : MI} {Φ' : Option AV → List AC → Prop} {idx i n : Nat} {As stk : List AV} (hj : EvM j (vr i :: As) h Φ') (hd : decode (mb q) pc = .ok (.invokespecial idx, 3)) (hl : LM (my q).cls idx (my j)) (hm : MK j n) (hy : (my j).name = "<init>") (hrt : mr j = none) (hv : Cond.instanceMethod (my j) ∈ Wt) (hR : Rle j q)
    (hs : stk = As.reverse ++ vr i :: st) (hn : As.length = n) (hst : st.length ≤ 8) (hc : cu + (mR j).cells ≤ (mR q).cells ∧ su + (mR j).slots ≤ (mR q).slots)
    (hok : ∀ r h', Φ' r h' → h'.length = h.length ∨ (ρ.all (oko h.length h'.length) && st.all (okv h.length h'.length)) = true)
    (kk : ∀ r h', Φ' r h' → Ev q X Φ (pc + 3) ρ (r.toList ++ st) h' (cu + (mR j).cells) (su + (mR j).slots)) : Ev q X Φ pc ρ stk h cu su := by
  intro p l e s m args below meth c Q D b A n0 ad0 C ad ws tys H locs ls L S
  subst hs
  obtain ⟨hM, hP, hK, hD, hS, hag, hle⟩ := id S
  obtain ⟨hcode, hini, hx1, hx2, hpar⟩ := hm
  rw [hrt] at hcode
  have hww : Ww j = Cond.code (my j) (mb j) (ml j) none :: Wt := by rw [Ww, hrt]
  have hgood : GoodIn Wt (Ww j) := by
    refine Ww_good ?_
    rw [hrt]
    exact hcode
  have hpre : PreS s H (va_Pc ((vr i :: As).map (cv b ad)) (fun U => U.heap.size = H.size ∧ va_P D vwCl ws U.heap ∧ va_K D vwCl tys U ∧ va_D (fun _ => True) ws ∧ NN U)) (.ref (ad i) :: As.map (cv b ad)) :=
    ⟨evm_blind, fun U hU hW => ⟨rfl, by rw [hU], by rw [hU]; exact hP, va_K.moved hW.alike hK, hD.weaken (fun _ _ _ _ => trivial), NN.warm hW C.2.1.2⟩⟩
  have hstack : (F0 m pc ls ((As.reverse ++ vr i :: st).map (cv b ad))).stack = (As.map (cv b ad)).reverse ++ .ref (ad i) :: st.map (cv b ad) := by
    show (As.reverse ++ vr i :: st).map (cv b ad) = _
    rw [List.map_append, List.map_reverse]
    rfl
  have hroom : 2 * (F0 m pc ls ((As.reverse ++ vr i :: st).map (cv b ad))).monitorRoom + ((st.map (cv b ad)).map fun v => v.category).sum ≤ 8 := by
    rw [cat_sum]
    show 2 * 0 + _ ≤ 8
    omega
  have hlen : (As.map (cv b ad)).length = n := by rw [List.length_map]; exact hn
  refine ev_back (j := j) (a := (Value.ref (ad i) :: As.map (cv b ad)).toArray) C L S ?_ hok kk
  rcases hl with hl | ⟨host, hl⟩
  · exact va_runI ⟨C.1.1, C.1.2.1, C.1.2.2.1, C.1.2.2.2.1, C.1.2.2.2.2⟩ (hj l D b ad ws tys H.size hM)
      ⟨callB_of n C.1.2.2.2.2 hgood hww rfl rfl (C.1.2.2.2.2 _ hini) (C.1.2.2.2.2 _ hl) ⟨hx1, hx2, hpar⟩ hR, hy, C.1.2.2.2.2 _ hv⟩ hpre rfl hlen L.1 hstack hroom hd hc
  · exact va_runIN ⟨C.1.1, C.1.2.1, C.1.2.2.1, C.1.2.2.2.1, C.1.2.2.2.2⟩ (hj l D b ad ws tys H.size hM)
      ⟨va_cnB n C.1.2.2.2.2 hgood hww rfl rfl (C.2.1.2 _ hl) (C.1.2.2.2.2 _ hini) ⟨hx1, hx2, hpar⟩ hR, hy, C.1.2.2.2.2 _ hv⟩ hpre rfl hlen L.1 hstack hroom hd hc
theorem Ev.acopy {idx i0 i1 n0 n1 : Nat} {f g : Nat → Int32} {sp dp n : Int32} {h' : List AC} (hd : decode (mb q) pc = .ok (.invokestatic idx, 3)) (hw1 : Cond.methodLink (my q).cls idx arraycopyName ∈ Wt) (hw2 : Cond.native arraycopyName ∈ Wt) (hw3 : Cond.static arraycopyName ∈ Wt) (hw4 : Cond.initialized "java/lang/System" ∈ Wt)
    (h0 : h[i0]? = some (ai .int n0 f)) (h1 : h[i1]? = some (ai .int n1 g)) (g1 : ¬ sp < 0) (g2 : ¬ dp < 0) (g3 : ¬ n < 0) (g4 : sp.toNatClampNeg + n.toNatClampNeg ≤ n0) (g5 : dp.toNatClampNeg + n.toNatClampNeg ≤ n1) (hfr : 1 ≤ (mR q).frames) (hlo : st.length + (nativeFrameWords "java/lang/System" "arraycopy" 5 + 11) ≤ (mR q).locals)
    (hh : h.set i1 (ai .int n1 (va_cpy f g sp.toNatClampNeg dp.toNatClampNeg n.toNatClampNeg)) = h') (kk : Ev q X Φ (pc + 3) ρ st h' cu su) : Ev q X Φ pc ρ (vi n :: vi dp :: vr i1 :: vi sp :: vr i0 :: st) h cu su := by
  intro p l e s m args below meth c Q D b A m0 ad0 C ad ws tys H locs ls L S
  obtain ⟨hM, hP, hK, hD, hS, hag, hle⟩ := S
  obtain ⟨c0, t0, a1, a2⟩ := hM.2 i0 _ h0
  obtain ⟨c1, t1, a3, a4⟩ := hM.2 i1 _ h1
  subst hh
  refine va_copyi C.1.1 C.1.2.1 (by rw [C.1.2.2.1]; exact L.1.symm) C.1.2.2.2.1 (C.1.2.2.2.2 _ hw1) (C.1.2.2.2.2 _ hw2) (C.1.2.2.2.2 _ hw3) (C.1.2.2.2.2 _ hw4) hK hP hD hS i0 i1 t0 t1 a1 a3 a2 a4 rfl g1 g2 g3 g4 g5 (fun _ _ => rfl) hfr (by rw [cat_sum]; exact hlo) hd (fun H1 locs1 hP1 hD1 hS1 => ?_)
  exact kk p l e s m args below meth c Q D b A m0 ad0 C ad _ tys H1 locs1 ls L ⟨hm_set hM h1 (fun ws' hw' => ⟨c1, t1, hw', a4⟩), hP1, hK, hD1, hS1, by simpa using hag, by simpa using hle⟩
end EvCall
section EvEq
variable {q : MI} {X : Option (Nat × (Nat → Int32))} {Φ : Option AV → List AC → Prop} {pc : Nat} {ρ : List (Option AV)} {st : List AV} {h : List AC} {cu su : Nat}
theorem Ev.pce {pc' : Nat} (e : pc = pc') (k : Ev q X Φ pc' ρ st h cu su) : Ev q X Φ pc ρ st h cu su := e ▸ k
theorem Ev.cs {cu' su' : Nat} (e1 : cu = cu') (e2 : su = su') (k : Ev q X Φ pc ρ st h cu' su') : Ev q X Φ pc ρ st h cu su := e1 ▸ e2 ▸ k
theorem Ev.stk {st' : List AV} (e : st = st') (k : Ev q X Φ pc ρ st' h cu su) : Ev q X Φ pc ρ st h cu su := e ▸ k
theorem Ev.loc {ρ' : List (Option AV)} (e : ρ = ρ') (k : Ev q X Φ pc ρ' st h cu su) : Ev q X Φ pc ρ st h cu su := e ▸ k
end EvEq
end
section
/-! the state holds int fields (by cell and place) and arrays (by cell and index) -/
abbrev Sg : Type := Nat → Nat → Int32
def wr (s : Sg) (c k : Nat) (v : Int32) : Sg := fun c' => if c' = c then upd (s c) k v else s c'
def cpa (s : Sg) (c d sp dp n : Nat) : Sg := fun c' => if c' = d then va_cpy (s c) (s d) sp dp n else s c'
/-- the heap: every cell that the two objects hold, then what else there is -/
def HX (s : Sg) (R : List AC) : List AC :=
  ao 0 [vr 1, vr 3, vr 8, vr 16, vr 21, vr 23, vr 26, vr 29, vr 30, vi (s 0 9), vi (s 0 10)] ::
  ao 1 [vi (s 1 0), vi (s 1 1), vi (s 1 2), vr 2] ::
  ai .boolean 10 (s 2) ::
  ao 2 [vi (s 3 0), vr 4, vr 5, vr 6, vr 7] ::
  ai .int 60 (s 4) ::
  ai .int 60 (s 5) ::
  ai .int 60 (s 6) ::
  ai .boolean 60 (s 7) ::
  ao 3 [vi (s 8 0), vr 9, vr 10, vr 11, vr 12, vr 13, vr 14, vr 15] ::
  ai .int 40 (s 9) ::
  ai .int 40 (s 10) ::
  ai .int 40 (s 11) ::
  ai .int 40 (s 12) ::
  ai .boolean 40 (s 13) ::
  ai .boolean 40 (s 14) ::
  ai .boolean 40 (s 15) ::
  ao 4 [vi (s 16 0), vr 17, vr 18, vr 19, vr 20] ::
  ai .int 60 (s 17) ::
  ai .int 60 (s 18) ::
  ai .int 60 (s 19) ::
  ai .int 60 (s 20) ::
  ao 5 [vr 1, vr 3, vr 8, vr 16, vi (s 21 4), vi (s 21 5), vi (s 21 6), vi (s 21 7), vi (s 21 8), vi (s 21 9), vi (s 21 10), vr 22] ::
  ai .int 40 (s 22) ::
  ao 6 [vr 21, vr 24, vr 25, vi (s 23 3)] ::
  ai .int 220 (s 24) ::
  ai .int 220 (s 25) ::
  ao 6 [vr 21, vr 27, vr 28, vi (s 26 3)] ::
  ai .int 220 (s 27) ::
  ai .int 220 (s 28) ::
  ao 7 [vr 21, vr 23] ::
  ai .int 120 (s 30) ::
  ao 8 [vi (s 31 0), vi (s 31 1), vi (s 31 2), vi (s 31 3), vi (s 31 4), vi (s 31 5), vr 32, vr 33, vr 34, vr 35, vr 36, vr 37, vr 38, vr 39, vr 40, vr 41, vr 42, vr 43, vr 44, vr 45, vr 46, vr 47, vr 48, vr 49, vr 50, vi (s 31 25), vi (s 31 26), vi (s 31 27), vi (s 31 28), vi (s 31 29), vi (s 31 30), vr 51, vi (s 31 32), vi (s 31 33), vr 52, vr 53, vr 54, vr 55, vr 56, vr 57, vi (s 31 40), vr 58, vi (s 31 42), vr 59, vr 60, vi (s 31 45)] ::
  ai .boolean 10 (s 32) ::
  ai .boolean 10 (s 33) ::
  ai .boolean 10 (s 34) ::
  ai .int 60 (s 35) ::
  ai .int 60 (s 36) ::
  ai .int 60 (s 37) ::
  ai .boolean 60 (s 38) ::
  ai .int 40 (s 39) ::
  ai .int 40 (s 40) ::
  ai .int 40 (s 41) ::
  ai .boolean 40 (s 42) ::
  ai .boolean 40 (s 43) ::
  ai .boolean 40 (s 44) ::
  ai .int 400 (s 45) ::
  ai .int 400 (s 46) ::
  ai .int 60 (s 47) ::
  ai .int 60 (s 48) ::
  ai .int 60 (s 49) ::
  ai .int 60 (s 50) ::
  ai .boolean 10 (s 51) ::
  ai .int 20 (s 52) ::
  ai .int 80 (s 53) ::
  ai .int 120 (s 54) ::
  ai .int 20 (s 55) ::
  ai .int 80 (s 56) ::
  ai .int 120 (s 57) ::
  ai .int 120 (s 58) ::
  ai .int 400 (s 59) ::
  ai .int 400 (s 60) :: R
theorem HX_0 (s : Sg) (R : List AC) : (HX s R)[0]? = some (ao 0 [vr 1, vr 3, vr 8, vr 16, vr 21, vr 23, vr 26, vr 29, vr 30, vi (s 0 9), vi (s 0 10)]) := rfl
theorem HX_1 (s : Sg) (R : List AC) : (HX s R)[1]? = some (ao 1 [vi (s 1 0), vi (s 1 1), vi (s 1 2), vr 2]) := rfl
theorem HX_2 (s : Sg) (R : List AC) : (HX s R)[2]? = some (ai .boolean 10 (s 2)) := rfl
theorem HX_3 (s : Sg) (R : List AC) : (HX s R)[3]? = some (ao 2 [vi (s 3 0), vr 4, vr 5, vr 6, vr 7]) := rfl
theorem HX_4 (s : Sg) (R : List AC) : (HX s R)[4]? = some (ai .int 60 (s 4)) := rfl
theorem HX_5 (s : Sg) (R : List AC) : (HX s R)[5]? = some (ai .int 60 (s 5)) := rfl
theorem HX_6 (s : Sg) (R : List AC) : (HX s R)[6]? = some (ai .int 60 (s 6)) := rfl
theorem HX_7 (s : Sg) (R : List AC) : (HX s R)[7]? = some (ai .boolean 60 (s 7)) := rfl
theorem HX_8 (s : Sg) (R : List AC) : (HX s R)[8]? = some (ao 3 [vi (s 8 0), vr 9, vr 10, vr 11, vr 12, vr 13, vr 14, vr 15]) := rfl
theorem HX_9 (s : Sg) (R : List AC) : (HX s R)[9]? = some (ai .int 40 (s 9)) := rfl
theorem HX_10 (s : Sg) (R : List AC) : (HX s R)[10]? = some (ai .int 40 (s 10)) := rfl
theorem HX_11 (s : Sg) (R : List AC) : (HX s R)[11]? = some (ai .int 40 (s 11)) := rfl
theorem HX_12 (s : Sg) (R : List AC) : (HX s R)[12]? = some (ai .int 40 (s 12)) := rfl
theorem HX_13 (s : Sg) (R : List AC) : (HX s R)[13]? = some (ai .boolean 40 (s 13)) := rfl
theorem HX_14 (s : Sg) (R : List AC) : (HX s R)[14]? = some (ai .boolean 40 (s 14)) := rfl
theorem HX_15 (s : Sg) (R : List AC) : (HX s R)[15]? = some (ai .boolean 40 (s 15)) := rfl
theorem HX_16 (s : Sg) (R : List AC) : (HX s R)[16]? = some (ao 4 [vi (s 16 0), vr 17, vr 18, vr 19, vr 20]) := rfl
theorem HX_17 (s : Sg) (R : List AC) : (HX s R)[17]? = some (ai .int 60 (s 17)) := rfl
theorem HX_18 (s : Sg) (R : List AC) : (HX s R)[18]? = some (ai .int 60 (s 18)) := rfl
theorem HX_19 (s : Sg) (R : List AC) : (HX s R)[19]? = some (ai .int 60 (s 19)) := rfl
theorem HX_20 (s : Sg) (R : List AC) : (HX s R)[20]? = some (ai .int 60 (s 20)) := rfl
theorem HX_21 (s : Sg) (R : List AC) : (HX s R)[21]? = some (ao 5 [vr 1, vr 3, vr 8, vr 16, vi (s 21 4), vi (s 21 5), vi (s 21 6), vi (s 21 7), vi (s 21 8), vi (s 21 9), vi (s 21 10), vr 22]) := rfl
theorem HX_22 (s : Sg) (R : List AC) : (HX s R)[22]? = some (ai .int 40 (s 22)) := rfl
theorem HX_23 (s : Sg) (R : List AC) : (HX s R)[23]? = some (ao 6 [vr 21, vr 24, vr 25, vi (s 23 3)]) := rfl
theorem HX_24 (s : Sg) (R : List AC) : (HX s R)[24]? = some (ai .int 220 (s 24)) := rfl
theorem HX_25 (s : Sg) (R : List AC) : (HX s R)[25]? = some (ai .int 220 (s 25)) := rfl
theorem HX_26 (s : Sg) (R : List AC) : (HX s R)[26]? = some (ao 6 [vr 21, vr 27, vr 28, vi (s 26 3)]) := rfl
theorem HX_27 (s : Sg) (R : List AC) : (HX s R)[27]? = some (ai .int 220 (s 27)) := rfl
theorem HX_28 (s : Sg) (R : List AC) : (HX s R)[28]? = some (ai .int 220 (s 28)) := rfl
theorem HX_29 (s : Sg) (R : List AC) : (HX s R)[29]? = some (ao 7 [vr 21, vr 23]) := rfl
theorem HX_30 (s : Sg) (R : List AC) : (HX s R)[30]? = some (ai .int 120 (s 30)) := rfl
theorem HX_31 (s : Sg) (R : List AC) : (HX s R)[31]? = some (ao 8 [vi (s 31 0), vi (s 31 1), vi (s 31 2), vi (s 31 3), vi (s 31 4), vi (s 31 5), vr 32, vr 33, vr 34, vr 35, vr 36, vr 37, vr 38, vr 39, vr 40, vr 41, vr 42, vr 43, vr 44, vr 45, vr 46, vr 47, vr 48, vr 49, vr 50, vi (s 31 25), vi (s 31 26), vi (s 31 27), vi (s 31 28), vi (s 31 29), vi (s 31 30), vr 51, vi (s 31 32), vi (s 31 33), vr 52, vr 53, vr 54, vr 55, vr 56, vr 57, vi (s 31 40), vr 58, vi (s 31 42), vr 59, vr 60, vi (s 31 45)]) := rfl
theorem HX_32 (s : Sg) (R : List AC) : (HX s R)[32]? = some (ai .boolean 10 (s 32)) := rfl
theorem HX_33 (s : Sg) (R : List AC) : (HX s R)[33]? = some (ai .boolean 10 (s 33)) := rfl
theorem HX_34 (s : Sg) (R : List AC) : (HX s R)[34]? = some (ai .boolean 10 (s 34)) := rfl
theorem HX_35 (s : Sg) (R : List AC) : (HX s R)[35]? = some (ai .int 60 (s 35)) := rfl
theorem HX_36 (s : Sg) (R : List AC) : (HX s R)[36]? = some (ai .int 60 (s 36)) := rfl
theorem HX_37 (s : Sg) (R : List AC) : (HX s R)[37]? = some (ai .int 60 (s 37)) := rfl
theorem HX_38 (s : Sg) (R : List AC) : (HX s R)[38]? = some (ai .boolean 60 (s 38)) := rfl
theorem HX_39 (s : Sg) (R : List AC) : (HX s R)[39]? = some (ai .int 40 (s 39)) := rfl
theorem HX_40 (s : Sg) (R : List AC) : (HX s R)[40]? = some (ai .int 40 (s 40)) := rfl
theorem HX_41 (s : Sg) (R : List AC) : (HX s R)[41]? = some (ai .int 40 (s 41)) := rfl
theorem HX_42 (s : Sg) (R : List AC) : (HX s R)[42]? = some (ai .boolean 40 (s 42)) := rfl
theorem HX_43 (s : Sg) (R : List AC) : (HX s R)[43]? = some (ai .boolean 40 (s 43)) := rfl
theorem HX_44 (s : Sg) (R : List AC) : (HX s R)[44]? = some (ai .boolean 40 (s 44)) := rfl
theorem HX_45 (s : Sg) (R : List AC) : (HX s R)[45]? = some (ai .int 400 (s 45)) := rfl
theorem HX_46 (s : Sg) (R : List AC) : (HX s R)[46]? = some (ai .int 400 (s 46)) := rfl
theorem HX_47 (s : Sg) (R : List AC) : (HX s R)[47]? = some (ai .int 60 (s 47)) := rfl
theorem HX_48 (s : Sg) (R : List AC) : (HX s R)[48]? = some (ai .int 60 (s 48)) := rfl
theorem HX_49 (s : Sg) (R : List AC) : (HX s R)[49]? = some (ai .int 60 (s 49)) := rfl
theorem HX_50 (s : Sg) (R : List AC) : (HX s R)[50]? = some (ai .int 60 (s 50)) := rfl
theorem HX_51 (s : Sg) (R : List AC) : (HX s R)[51]? = some (ai .boolean 10 (s 51)) := rfl
theorem HX_52 (s : Sg) (R : List AC) : (HX s R)[52]? = some (ai .int 20 (s 52)) := rfl
theorem HX_53 (s : Sg) (R : List AC) : (HX s R)[53]? = some (ai .int 80 (s 53)) := rfl
theorem HX_54 (s : Sg) (R : List AC) : (HX s R)[54]? = some (ai .int 120 (s 54)) := rfl
theorem HX_55 (s : Sg) (R : List AC) : (HX s R)[55]? = some (ai .int 20 (s 55)) := rfl
theorem HX_56 (s : Sg) (R : List AC) : (HX s R)[56]? = some (ai .int 80 (s 56)) := rfl
theorem HX_57 (s : Sg) (R : List AC) : (HX s R)[57]? = some (ai .int 120 (s 57)) := rfl
theorem HX_58 (s : Sg) (R : List AC) : (HX s R)[58]? = some (ai .int 120 (s 58)) := rfl
theorem HX_59 (s : Sg) (R : List AC) : (HX s R)[59]? = some (ai .int 400 (s 59)) := rfl
theorem HX_60 (s : Sg) (R : List AC) : (HX s R)[60]? = some (ai .int 400 (s 60)) := rfl
theorem HXf_0_9 (s : Sg) (R : List AC) (v : Int32) : (HX s R).set 0 (ao 0 ([vr 1, vr 3, vr 8, vr 16, vr 21, vr 23, vr 26, vr 29, vr 30, vi (s 0 9), vi (s 0 10)].set 9 (vi v))) = HX (wr s 0 9 v) R := rfl
theorem HXf_0_10 (s : Sg) (R : List AC) (v : Int32) : (HX s R).set 0 (ao 0 ([vr 1, vr 3, vr 8, vr 16, vr 21, vr 23, vr 26, vr 29, vr 30, vi (s 0 9), vi (s 0 10)].set 10 (vi v))) = HX (wr s 0 10 v) R := rfl
theorem HXf_1_0 (s : Sg) (R : List AC) (v : Int32) : (HX s R).set 1 (ao 1 ([vi (s 1 0), vi (s 1 1), vi (s 1 2), vr 2].set 0 (vi v))) = HX (wr s 1 0 v) R := rfl
theorem HXf_1_1 (s : Sg) (R : List AC) (v : Int32) : (HX s R).set 1 (ao 1 ([vi (s 1 0), vi (s 1 1), vi (s 1 2), vr 2].set 1 (vi v))) = HX (wr s 1 1 v) R := rfl
theorem HXf_1_2 (s : Sg) (R : List AC) (v : Int32) : (HX s R).set 1 (ao 1 ([vi (s 1 0), vi (s 1 1), vi (s 1 2), vr 2].set 2 (vi v))) = HX (wr s 1 2 v) R := rfl
theorem HXa_2 (s : Sg) (R : List AC) (i : Nat) (v : Int32) : (HX s R).set 2 (ai .boolean 10 (upd (s 2) i v)) = HX (wr s 2 i v) R := rfl
theorem HXf_3_0 (s : Sg) (R : List AC) (v : Int32) : (HX s R).set 3 (ao 2 ([vi (s 3 0), vr 4, vr 5, vr 6, vr 7].set 0 (vi v))) = HX (wr s 3 0 v) R := rfl
theorem HXa_4 (s : Sg) (R : List AC) (i : Nat) (v : Int32) : (HX s R).set 4 (ai .int 60 (upd (s 4) i v)) = HX (wr s 4 i v) R := rfl
theorem HXa_5 (s : Sg) (R : List AC) (i : Nat) (v : Int32) : (HX s R).set 5 (ai .int 60 (upd (s 5) i v)) = HX (wr s 5 i v) R := rfl
theorem HXa_6 (s : Sg) (R : List AC) (i : Nat) (v : Int32) : (HX s R).set 6 (ai .int 60 (upd (s 6) i v)) = HX (wr s 6 i v) R := rfl
theorem HXa_7 (s : Sg) (R : List AC) (i : Nat) (v : Int32) : (HX s R).set 7 (ai .boolean 60 (upd (s 7) i v)) = HX (wr s 7 i v) R := rfl
theorem HXf_8_0 (s : Sg) (R : List AC) (v : Int32) : (HX s R).set 8 (ao 3 ([vi (s 8 0), vr 9, vr 10, vr 11, vr 12, vr 13, vr 14, vr 15].set 0 (vi v))) = HX (wr s 8 0 v) R := rfl
theorem HXa_9 (s : Sg) (R : List AC) (i : Nat) (v : Int32) : (HX s R).set 9 (ai .int 40 (upd (s 9) i v)) = HX (wr s 9 i v) R := rfl
theorem HXa_10 (s : Sg) (R : List AC) (i : Nat) (v : Int32) : (HX s R).set 10 (ai .int 40 (upd (s 10) i v)) = HX (wr s 10 i v) R := rfl
theorem HXa_11 (s : Sg) (R : List AC) (i : Nat) (v : Int32) : (HX s R).set 11 (ai .int 40 (upd (s 11) i v)) = HX (wr s 11 i v) R := rfl
theorem HXa_12 (s : Sg) (R : List AC) (i : Nat) (v : Int32) : (HX s R).set 12 (ai .int 40 (upd (s 12) i v)) = HX (wr s 12 i v) R := rfl
theorem HXa_13 (s : Sg) (R : List AC) (i : Nat) (v : Int32) : (HX s R).set 13 (ai .boolean 40 (upd (s 13) i v)) = HX (wr s 13 i v) R := rfl
theorem HXa_14 (s : Sg) (R : List AC) (i : Nat) (v : Int32) : (HX s R).set 14 (ai .boolean 40 (upd (s 14) i v)) = HX (wr s 14 i v) R := rfl
theorem HXa_15 (s : Sg) (R : List AC) (i : Nat) (v : Int32) : (HX s R).set 15 (ai .boolean 40 (upd (s 15) i v)) = HX (wr s 15 i v) R := rfl
theorem HXf_16_0 (s : Sg) (R : List AC) (v : Int32) : (HX s R).set 16 (ao 4 ([vi (s 16 0), vr 17, vr 18, vr 19, vr 20].set 0 (vi v))) = HX (wr s 16 0 v) R := rfl
theorem HXa_17 (s : Sg) (R : List AC) (i : Nat) (v : Int32) : (HX s R).set 17 (ai .int 60 (upd (s 17) i v)) = HX (wr s 17 i v) R := rfl
theorem HXa_18 (s : Sg) (R : List AC) (i : Nat) (v : Int32) : (HX s R).set 18 (ai .int 60 (upd (s 18) i v)) = HX (wr s 18 i v) R := rfl
theorem HXa_19 (s : Sg) (R : List AC) (i : Nat) (v : Int32) : (HX s R).set 19 (ai .int 60 (upd (s 19) i v)) = HX (wr s 19 i v) R := rfl
theorem HXa_20 (s : Sg) (R : List AC) (i : Nat) (v : Int32) : (HX s R).set 20 (ai .int 60 (upd (s 20) i v)) = HX (wr s 20 i v) R := rfl
theorem HXf_21_4 (s : Sg) (R : List AC) (v : Int32) : (HX s R).set 21 (ao 5 ([vr 1, vr 3, vr 8, vr 16, vi (s 21 4), vi (s 21 5), vi (s 21 6), vi (s 21 7), vi (s 21 8), vi (s 21 9), vi (s 21 10), vr 22].set 4 (vi v))) = HX (wr s 21 4 v) R := rfl
theorem HXf_21_5 (s : Sg) (R : List AC) (v : Int32) : (HX s R).set 21 (ao 5 ([vr 1, vr 3, vr 8, vr 16, vi (s 21 4), vi (s 21 5), vi (s 21 6), vi (s 21 7), vi (s 21 8), vi (s 21 9), vi (s 21 10), vr 22].set 5 (vi v))) = HX (wr s 21 5 v) R := rfl
theorem HXf_21_6 (s : Sg) (R : List AC) (v : Int32) : (HX s R).set 21 (ao 5 ([vr 1, vr 3, vr 8, vr 16, vi (s 21 4), vi (s 21 5), vi (s 21 6), vi (s 21 7), vi (s 21 8), vi (s 21 9), vi (s 21 10), vr 22].set 6 (vi v))) = HX (wr s 21 6 v) R := rfl
theorem HXf_21_7 (s : Sg) (R : List AC) (v : Int32) : (HX s R).set 21 (ao 5 ([vr 1, vr 3, vr 8, vr 16, vi (s 21 4), vi (s 21 5), vi (s 21 6), vi (s 21 7), vi (s 21 8), vi (s 21 9), vi (s 21 10), vr 22].set 7 (vi v))) = HX (wr s 21 7 v) R := rfl
theorem HXf_21_8 (s : Sg) (R : List AC) (v : Int32) : (HX s R).set 21 (ao 5 ([vr 1, vr 3, vr 8, vr 16, vi (s 21 4), vi (s 21 5), vi (s 21 6), vi (s 21 7), vi (s 21 8), vi (s 21 9), vi (s 21 10), vr 22].set 8 (vi v))) = HX (wr s 21 8 v) R := rfl
theorem HXf_21_9 (s : Sg) (R : List AC) (v : Int32) : (HX s R).set 21 (ao 5 ([vr 1, vr 3, vr 8, vr 16, vi (s 21 4), vi (s 21 5), vi (s 21 6), vi (s 21 7), vi (s 21 8), vi (s 21 9), vi (s 21 10), vr 22].set 9 (vi v))) = HX (wr s 21 9 v) R := rfl
theorem HXf_21_10 (s : Sg) (R : List AC) (v : Int32) : (HX s R).set 21 (ao 5 ([vr 1, vr 3, vr 8, vr 16, vi (s 21 4), vi (s 21 5), vi (s 21 6), vi (s 21 7), vi (s 21 8), vi (s 21 9), vi (s 21 10), vr 22].set 10 (vi v))) = HX (wr s 21 10 v) R := rfl
theorem HXa_22 (s : Sg) (R : List AC) (i : Nat) (v : Int32) : (HX s R).set 22 (ai .int 40 (upd (s 22) i v)) = HX (wr s 22 i v) R := rfl
theorem HXf_23_3 (s : Sg) (R : List AC) (v : Int32) : (HX s R).set 23 (ao 6 ([vr 21, vr 24, vr 25, vi (s 23 3)].set 3 (vi v))) = HX (wr s 23 3 v) R := rfl
theorem HXa_24 (s : Sg) (R : List AC) (i : Nat) (v : Int32) : (HX s R).set 24 (ai .int 220 (upd (s 24) i v)) = HX (wr s 24 i v) R := rfl
theorem HXa_25 (s : Sg) (R : List AC) (i : Nat) (v : Int32) : (HX s R).set 25 (ai .int 220 (upd (s 25) i v)) = HX (wr s 25 i v) R := rfl
theorem HXf_26_3 (s : Sg) (R : List AC) (v : Int32) : (HX s R).set 26 (ao 6 ([vr 21, vr 27, vr 28, vi (s 26 3)].set 3 (vi v))) = HX (wr s 26 3 v) R := rfl
theorem HXa_27 (s : Sg) (R : List AC) (i : Nat) (v : Int32) : (HX s R).set 27 (ai .int 220 (upd (s 27) i v)) = HX (wr s 27 i v) R := rfl
theorem HXa_28 (s : Sg) (R : List AC) (i : Nat) (v : Int32) : (HX s R).set 28 (ai .int 220 (upd (s 28) i v)) = HX (wr s 28 i v) R := rfl
theorem HXa_30 (s : Sg) (R : List AC) (i : Nat) (v : Int32) : (HX s R).set 30 (ai .int 120 (upd (s 30) i v)) = HX (wr s 30 i v) R := rfl
theorem HXf_31_0 (s : Sg) (R : List AC) (v : Int32) : (HX s R).set 31 (ao 8 ([vi (s 31 0), vi (s 31 1), vi (s 31 2), vi (s 31 3), vi (s 31 4), vi (s 31 5), vr 32, vr 33, vr 34, vr 35, vr 36, vr 37, vr 38, vr 39, vr 40, vr 41, vr 42, vr 43, vr 44, vr 45, vr 46, vr 47, vr 48, vr 49, vr 50, vi (s 31 25), vi (s 31 26), vi (s 31 27), vi (s 31 28), vi (s 31 29), vi (s 31 30), vr 51, vi (s 31 32), vi (s 31 33), vr 52, vr 53, vr 54, vr 55, vr 56, vr 57, vi (s 31 40), vr 58, vi (s 31 42), vr 59, vr 60, vi (s 31 45)].set 0 (vi v))) = HX (wr s 31 0 v) R := rfl
theorem HXf_31_1 (s : Sg) (R : List AC) (v : Int32) : (HX s R).set 31 (ao 8 ([vi (s 31 0), vi (s 31 1), vi (s 31 2), vi (s 31 3), vi (s 31 4), vi (s 31 5), vr 32, vr 33, vr 34, vr 35, vr 36, vr 37, vr 38, vr 39, vr 40, vr 41, vr 42, vr 43, vr 44, vr 45, vr 46, vr 47, vr 48, vr 49, vr 50, vi (s 31 25), vi (s 31 26), vi (s 31 27), vi (s 31 28), vi (s 31 29), vi (s 31 30), vr 51, vi (s 31 32), vi (s 31 33), vr 52, vr 53, vr 54, vr 55, vr 56, vr 57, vi (s 31 40), vr 58, vi (s 31 42), vr 59, vr 60, vi (s 31 45)].set 1 (vi v))) = HX (wr s 31 1 v) R := rfl
theorem HXf_31_2 (s : Sg) (R : List AC) (v : Int32) : (HX s R).set 31 (ao 8 ([vi (s 31 0), vi (s 31 1), vi (s 31 2), vi (s 31 3), vi (s 31 4), vi (s 31 5), vr 32, vr 33, vr 34, vr 35, vr 36, vr 37, vr 38, vr 39, vr 40, vr 41, vr 42, vr 43, vr 44, vr 45, vr 46, vr 47, vr 48, vr 49, vr 50, vi (s 31 25), vi (s 31 26), vi (s 31 27), vi (s 31 28), vi (s 31 29), vi (s 31 30), vr 51, vi (s 31 32), vi (s 31 33), vr 52, vr 53, vr 54, vr 55, vr 56, vr 57, vi (s 31 40), vr 58, vi (s 31 42), vr 59, vr 60, vi (s 31 45)].set 2 (vi v))) = HX (wr s 31 2 v) R := rfl
theorem HXf_31_3 (s : Sg) (R : List AC) (v : Int32) : (HX s R).set 31 (ao 8 ([vi (s 31 0), vi (s 31 1), vi (s 31 2), vi (s 31 3), vi (s 31 4), vi (s 31 5), vr 32, vr 33, vr 34, vr 35, vr 36, vr 37, vr 38, vr 39, vr 40, vr 41, vr 42, vr 43, vr 44, vr 45, vr 46, vr 47, vr 48, vr 49, vr 50, vi (s 31 25), vi (s 31 26), vi (s 31 27), vi (s 31 28), vi (s 31 29), vi (s 31 30), vr 51, vi (s 31 32), vi (s 31 33), vr 52, vr 53, vr 54, vr 55, vr 56, vr 57, vi (s 31 40), vr 58, vi (s 31 42), vr 59, vr 60, vi (s 31 45)].set 3 (vi v))) = HX (wr s 31 3 v) R := rfl
theorem HXf_31_4 (s : Sg) (R : List AC) (v : Int32) : (HX s R).set 31 (ao 8 ([vi (s 31 0), vi (s 31 1), vi (s 31 2), vi (s 31 3), vi (s 31 4), vi (s 31 5), vr 32, vr 33, vr 34, vr 35, vr 36, vr 37, vr 38, vr 39, vr 40, vr 41, vr 42, vr 43, vr 44, vr 45, vr 46, vr 47, vr 48, vr 49, vr 50, vi (s 31 25), vi (s 31 26), vi (s 31 27), vi (s 31 28), vi (s 31 29), vi (s 31 30), vr 51, vi (s 31 32), vi (s 31 33), vr 52, vr 53, vr 54, vr 55, vr 56, vr 57, vi (s 31 40), vr 58, vi (s 31 42), vr 59, vr 60, vi (s 31 45)].set 4 (vi v))) = HX (wr s 31 4 v) R := rfl
theorem HXf_31_5 (s : Sg) (R : List AC) (v : Int32) : (HX s R).set 31 (ao 8 ([vi (s 31 0), vi (s 31 1), vi (s 31 2), vi (s 31 3), vi (s 31 4), vi (s 31 5), vr 32, vr 33, vr 34, vr 35, vr 36, vr 37, vr 38, vr 39, vr 40, vr 41, vr 42, vr 43, vr 44, vr 45, vr 46, vr 47, vr 48, vr 49, vr 50, vi (s 31 25), vi (s 31 26), vi (s 31 27), vi (s 31 28), vi (s 31 29), vi (s 31 30), vr 51, vi (s 31 32), vi (s 31 33), vr 52, vr 53, vr 54, vr 55, vr 56, vr 57, vi (s 31 40), vr 58, vi (s 31 42), vr 59, vr 60, vi (s 31 45)].set 5 (vi v))) = HX (wr s 31 5 v) R := rfl
theorem HXf_31_25 (s : Sg) (R : List AC) (v : Int32) : (HX s R).set 31 (ao 8 ([vi (s 31 0), vi (s 31 1), vi (s 31 2), vi (s 31 3), vi (s 31 4), vi (s 31 5), vr 32, vr 33, vr 34, vr 35, vr 36, vr 37, vr 38, vr 39, vr 40, vr 41, vr 42, vr 43, vr 44, vr 45, vr 46, vr 47, vr 48, vr 49, vr 50, vi (s 31 25), vi (s 31 26), vi (s 31 27), vi (s 31 28), vi (s 31 29), vi (s 31 30), vr 51, vi (s 31 32), vi (s 31 33), vr 52, vr 53, vr 54, vr 55, vr 56, vr 57, vi (s 31 40), vr 58, vi (s 31 42), vr 59, vr 60, vi (s 31 45)].set 25 (vi v))) = HX (wr s 31 25 v) R := rfl
theorem HXf_31_26 (s : Sg) (R : List AC) (v : Int32) : (HX s R).set 31 (ao 8 ([vi (s 31 0), vi (s 31 1), vi (s 31 2), vi (s 31 3), vi (s 31 4), vi (s 31 5), vr 32, vr 33, vr 34, vr 35, vr 36, vr 37, vr 38, vr 39, vr 40, vr 41, vr 42, vr 43, vr 44, vr 45, vr 46, vr 47, vr 48, vr 49, vr 50, vi (s 31 25), vi (s 31 26), vi (s 31 27), vi (s 31 28), vi (s 31 29), vi (s 31 30), vr 51, vi (s 31 32), vi (s 31 33), vr 52, vr 53, vr 54, vr 55, vr 56, vr 57, vi (s 31 40), vr 58, vi (s 31 42), vr 59, vr 60, vi (s 31 45)].set 26 (vi v))) = HX (wr s 31 26 v) R := rfl
theorem HXf_31_27 (s : Sg) (R : List AC) (v : Int32) : (HX s R).set 31 (ao 8 ([vi (s 31 0), vi (s 31 1), vi (s 31 2), vi (s 31 3), vi (s 31 4), vi (s 31 5), vr 32, vr 33, vr 34, vr 35, vr 36, vr 37, vr 38, vr 39, vr 40, vr 41, vr 42, vr 43, vr 44, vr 45, vr 46, vr 47, vr 48, vr 49, vr 50, vi (s 31 25), vi (s 31 26), vi (s 31 27), vi (s 31 28), vi (s 31 29), vi (s 31 30), vr 51, vi (s 31 32), vi (s 31 33), vr 52, vr 53, vr 54, vr 55, vr 56, vr 57, vi (s 31 40), vr 58, vi (s 31 42), vr 59, vr 60, vi (s 31 45)].set 27 (vi v))) = HX (wr s 31 27 v) R := rfl
theorem HXf_31_28 (s : Sg) (R : List AC) (v : Int32) : (HX s R).set 31 (ao 8 ([vi (s 31 0), vi (s 31 1), vi (s 31 2), vi (s 31 3), vi (s 31 4), vi (s 31 5), vr 32, vr 33, vr 34, vr 35, vr 36, vr 37, vr 38, vr 39, vr 40, vr 41, vr 42, vr 43, vr 44, vr 45, vr 46, vr 47, vr 48, vr 49, vr 50, vi (s 31 25), vi (s 31 26), vi (s 31 27), vi (s 31 28), vi (s 31 29), vi (s 31 30), vr 51, vi (s 31 32), vi (s 31 33), vr 52, vr 53, vr 54, vr 55, vr 56, vr 57, vi (s 31 40), vr 58, vi (s 31 42), vr 59, vr 60, vi (s 31 45)].set 28 (vi v))) = HX (wr s 31 28 v) R := rfl
theorem HXf_31_29 (s : Sg) (R : List AC) (v : Int32) : (HX s R).set 31 (ao 8 ([vi (s 31 0), vi (s 31 1), vi (s 31 2), vi (s 31 3), vi (s 31 4), vi (s 31 5), vr 32, vr 33, vr 34, vr 35, vr 36, vr 37, vr 38, vr 39, vr 40, vr 41, vr 42, vr 43, vr 44, vr 45, vr 46, vr 47, vr 48, vr 49, vr 50, vi (s 31 25), vi (s 31 26), vi (s 31 27), vi (s 31 28), vi (s 31 29), vi (s 31 30), vr 51, vi (s 31 32), vi (s 31 33), vr 52, vr 53, vr 54, vr 55, vr 56, vr 57, vi (s 31 40), vr 58, vi (s 31 42), vr 59, vr 60, vi (s 31 45)].set 29 (vi v))) = HX (wr s 31 29 v) R := rfl
theorem HXf_31_30 (s : Sg) (R : List AC) (v : Int32) : (HX s R).set 31 (ao 8 ([vi (s 31 0), vi (s 31 1), vi (s 31 2), vi (s 31 3), vi (s 31 4), vi (s 31 5), vr 32, vr 33, vr 34, vr 35, vr 36, vr 37, vr 38, vr 39, vr 40, vr 41, vr 42, vr 43, vr 44, vr 45, vr 46, vr 47, vr 48, vr 49, vr 50, vi (s 31 25), vi (s 31 26), vi (s 31 27), vi (s 31 28), vi (s 31 29), vi (s 31 30), vr 51, vi (s 31 32), vi (s 31 33), vr 52, vr 53, vr 54, vr 55, vr 56, vr 57, vi (s 31 40), vr 58, vi (s 31 42), vr 59, vr 60, vi (s 31 45)].set 30 (vi v))) = HX (wr s 31 30 v) R := rfl
theorem HXf_31_32 (s : Sg) (R : List AC) (v : Int32) : (HX s R).set 31 (ao 8 ([vi (s 31 0), vi (s 31 1), vi (s 31 2), vi (s 31 3), vi (s 31 4), vi (s 31 5), vr 32, vr 33, vr 34, vr 35, vr 36, vr 37, vr 38, vr 39, vr 40, vr 41, vr 42, vr 43, vr 44, vr 45, vr 46, vr 47, vr 48, vr 49, vr 50, vi (s 31 25), vi (s 31 26), vi (s 31 27), vi (s 31 28), vi (s 31 29), vi (s 31 30), vr 51, vi (s 31 32), vi (s 31 33), vr 52, vr 53, vr 54, vr 55, vr 56, vr 57, vi (s 31 40), vr 58, vi (s 31 42), vr 59, vr 60, vi (s 31 45)].set 32 (vi v))) = HX (wr s 31 32 v) R := rfl
theorem HXf_31_33 (s : Sg) (R : List AC) (v : Int32) : (HX s R).set 31 (ao 8 ([vi (s 31 0), vi (s 31 1), vi (s 31 2), vi (s 31 3), vi (s 31 4), vi (s 31 5), vr 32, vr 33, vr 34, vr 35, vr 36, vr 37, vr 38, vr 39, vr 40, vr 41, vr 42, vr 43, vr 44, vr 45, vr 46, vr 47, vr 48, vr 49, vr 50, vi (s 31 25), vi (s 31 26), vi (s 31 27), vi (s 31 28), vi (s 31 29), vi (s 31 30), vr 51, vi (s 31 32), vi (s 31 33), vr 52, vr 53, vr 54, vr 55, vr 56, vr 57, vi (s 31 40), vr 58, vi (s 31 42), vr 59, vr 60, vi (s 31 45)].set 33 (vi v))) = HX (wr s 31 33 v) R := rfl
theorem HXf_31_40 (s : Sg) (R : List AC) (v : Int32) : (HX s R).set 31 (ao 8 ([vi (s 31 0), vi (s 31 1), vi (s 31 2), vi (s 31 3), vi (s 31 4), vi (s 31 5), vr 32, vr 33, vr 34, vr 35, vr 36, vr 37, vr 38, vr 39, vr 40, vr 41, vr 42, vr 43, vr 44, vr 45, vr 46, vr 47, vr 48, vr 49, vr 50, vi (s 31 25), vi (s 31 26), vi (s 31 27), vi (s 31 28), vi (s 31 29), vi (s 31 30), vr 51, vi (s 31 32), vi (s 31 33), vr 52, vr 53, vr 54, vr 55, vr 56, vr 57, vi (s 31 40), vr 58, vi (s 31 42), vr 59, vr 60, vi (s 31 45)].set 40 (vi v))) = HX (wr s 31 40 v) R := rfl
theorem HXf_31_42 (s : Sg) (R : List AC) (v : Int32) : (HX s R).set 31 (ao 8 ([vi (s 31 0), vi (s 31 1), vi (s 31 2), vi (s 31 3), vi (s 31 4), vi (s 31 5), vr 32, vr 33, vr 34, vr 35, vr 36, vr 37, vr 38, vr 39, vr 40, vr 41, vr 42, vr 43, vr 44, vr 45, vr 46, vr 47, vr 48, vr 49, vr 50, vi (s 31 25), vi (s 31 26), vi (s 31 27), vi (s 31 28), vi (s 31 29), vi (s 31 30), vr 51, vi (s 31 32), vi (s 31 33), vr 52, vr 53, vr 54, vr 55, vr 56, vr 57, vi (s 31 40), vr 58, vi (s 31 42), vr 59, vr 60, vi (s 31 45)].set 42 (vi v))) = HX (wr s 31 42 v) R := rfl
theorem HXf_31_45 (s : Sg) (R : List AC) (v : Int32) : (HX s R).set 31 (ao 8 ([vi (s 31 0), vi (s 31 1), vi (s 31 2), vi (s 31 3), vi (s 31 4), vi (s 31 5), vr 32, vr 33, vr 34, vr 35, vr 36, vr 37, vr 38, vr 39, vr 40, vr 41, vr 42, vr 43, vr 44, vr 45, vr 46, vr 47, vr 48, vr 49, vr 50, vi (s 31 25), vi (s 31 26), vi (s 31 27), vi (s 31 28), vi (s 31 29), vi (s 31 30), vr 51, vi (s 31 32), vi (s 31 33), vr 52, vr 53, vr 54, vr 55, vr 56, vr 57, vi (s 31 40), vr 58, vi (s 31 42), vr 59, vr 60, vi (s 31 45)].set 45 (vi v))) = HX (wr s 31 45 v) R := rfl
theorem HXa_32 (s : Sg) (R : List AC) (i : Nat) (v : Int32) : (HX s R).set 32 (ai .boolean 10 (upd (s 32) i v)) = HX (wr s 32 i v) R := rfl
theorem HXa_33 (s : Sg) (R : List AC) (i : Nat) (v : Int32) : (HX s R).set 33 (ai .boolean 10 (upd (s 33) i v)) = HX (wr s 33 i v) R := rfl
theorem HXa_34 (s : Sg) (R : List AC) (i : Nat) (v : Int32) : (HX s R).set 34 (ai .boolean 10 (upd (s 34) i v)) = HX (wr s 34 i v) R := rfl
theorem HXa_35 (s : Sg) (R : List AC) (i : Nat) (v : Int32) : (HX s R).set 35 (ai .int 60 (upd (s 35) i v)) = HX (wr s 35 i v) R := rfl
theorem HXa_36 (s : Sg) (R : List AC) (i : Nat) (v : Int32) : (HX s R).set 36 (ai .int 60 (upd (s 36) i v)) = HX (wr s 36 i v) R := rfl
theorem HXa_37 (s : Sg) (R : List AC) (i : Nat) (v : Int32) : (HX s R).set 37 (ai .int 60 (upd (s 37) i v)) = HX (wr s 37 i v) R := rfl
theorem HXa_38 (s : Sg) (R : List AC) (i : Nat) (v : Int32) : (HX s R).set 38 (ai .boolean 60 (upd (s 38) i v)) = HX (wr s 38 i v) R := rfl
theorem HXa_39 (s : Sg) (R : List AC) (i : Nat) (v : Int32) : (HX s R).set 39 (ai .int 40 (upd (s 39) i v)) = HX (wr s 39 i v) R := rfl
theorem HXa_40 (s : Sg) (R : List AC) (i : Nat) (v : Int32) : (HX s R).set 40 (ai .int 40 (upd (s 40) i v)) = HX (wr s 40 i v) R := rfl
theorem HXa_41 (s : Sg) (R : List AC) (i : Nat) (v : Int32) : (HX s R).set 41 (ai .int 40 (upd (s 41) i v)) = HX (wr s 41 i v) R := rfl
theorem HXa_42 (s : Sg) (R : List AC) (i : Nat) (v : Int32) : (HX s R).set 42 (ai .boolean 40 (upd (s 42) i v)) = HX (wr s 42 i v) R := rfl
theorem HXa_43 (s : Sg) (R : List AC) (i : Nat) (v : Int32) : (HX s R).set 43 (ai .boolean 40 (upd (s 43) i v)) = HX (wr s 43 i v) R := rfl
theorem HXa_44 (s : Sg) (R : List AC) (i : Nat) (v : Int32) : (HX s R).set 44 (ai .boolean 40 (upd (s 44) i v)) = HX (wr s 44 i v) R := rfl
theorem HXa_45 (s : Sg) (R : List AC) (i : Nat) (v : Int32) : (HX s R).set 45 (ai .int 400 (upd (s 45) i v)) = HX (wr s 45 i v) R := rfl
theorem HXa_46 (s : Sg) (R : List AC) (i : Nat) (v : Int32) : (HX s R).set 46 (ai .int 400 (upd (s 46) i v)) = HX (wr s 46 i v) R := rfl
theorem HXa_47 (s : Sg) (R : List AC) (i : Nat) (v : Int32) : (HX s R).set 47 (ai .int 60 (upd (s 47) i v)) = HX (wr s 47 i v) R := rfl
theorem HXa_48 (s : Sg) (R : List AC) (i : Nat) (v : Int32) : (HX s R).set 48 (ai .int 60 (upd (s 48) i v)) = HX (wr s 48 i v) R := rfl
theorem HXa_49 (s : Sg) (R : List AC) (i : Nat) (v : Int32) : (HX s R).set 49 (ai .int 60 (upd (s 49) i v)) = HX (wr s 49 i v) R := rfl
theorem HXa_50 (s : Sg) (R : List AC) (i : Nat) (v : Int32) : (HX s R).set 50 (ai .int 60 (upd (s 50) i v)) = HX (wr s 50 i v) R := rfl
theorem HXa_51 (s : Sg) (R : List AC) (i : Nat) (v : Int32) : (HX s R).set 51 (ai .boolean 10 (upd (s 51) i v)) = HX (wr s 51 i v) R := rfl
theorem HXa_52 (s : Sg) (R : List AC) (i : Nat) (v : Int32) : (HX s R).set 52 (ai .int 20 (upd (s 52) i v)) = HX (wr s 52 i v) R := rfl
theorem HXa_53 (s : Sg) (R : List AC) (i : Nat) (v : Int32) : (HX s R).set 53 (ai .int 80 (upd (s 53) i v)) = HX (wr s 53 i v) R := rfl
theorem HXa_54 (s : Sg) (R : List AC) (i : Nat) (v : Int32) : (HX s R).set 54 (ai .int 120 (upd (s 54) i v)) = HX (wr s 54 i v) R := rfl
theorem HXa_55 (s : Sg) (R : List AC) (i : Nat) (v : Int32) : (HX s R).set 55 (ai .int 20 (upd (s 55) i v)) = HX (wr s 55 i v) R := rfl
theorem HXa_56 (s : Sg) (R : List AC) (i : Nat) (v : Int32) : (HX s R).set 56 (ai .int 80 (upd (s 56) i v)) = HX (wr s 56 i v) R := rfl
theorem HXa_57 (s : Sg) (R : List AC) (i : Nat) (v : Int32) : (HX s R).set 57 (ai .int 120 (upd (s 57) i v)) = HX (wr s 57 i v) R := rfl
theorem HXa_58 (s : Sg) (R : List AC) (i : Nat) (v : Int32) : (HX s R).set 58 (ai .int 120 (upd (s 58) i v)) = HX (wr s 58 i v) R := rfl
theorem HXa_59 (s : Sg) (R : List AC) (i : Nat) (v : Int32) : (HX s R).set 59 (ai .int 400 (upd (s 59) i v)) = HX (wr s 59 i v) R := rfl
theorem HXa_60 (s : Sg) (R : List AC) (i : Nat) (v : Int32) : (HX s R).set 60 (ai .int 400 (upd (s 60) i v)) = HX (wr s 60 i v) R := rfl
theorem HXc_12_22 (s : Sg) (R : List AC) (sp dp n : Nat) : (HX s R).set 22 (ai .int 40 (va_cpy (s 12) (s 22) sp dp n)) = HX (cpa s 12 22 sp dp n) R := rfl
theorem kB_m3 : (Int8.ofInt (-3)).toInt32 = ((-3) : Int32) := by decide +kernel
theorem kB_m2 : (Int8.ofInt (-2)).toInt32 = ((-2) : Int32) := by decide +kernel
theorem kB_6 : (Int8.ofInt 6).toInt32 = (6 : Int32) := by decide +kernel
theorem kB_7 : (Int8.ofInt 7).toInt32 = (7 : Int32) := by decide +kernel
theorem kB_8 : (Int8.ofInt 8).toInt32 = (8 : Int32) := by decide +kernel
theorem kB_10 : (Int8.ofInt 10).toInt32 = (10 : Int32) := by decide +kernel
theorem kB_15 : (Int8.ofInt 15).toInt32 = (15 : Int32) := by decide +kernel
theorem kB_20 : (Int8.ofInt 20).toInt32 = (20 : Int32) := by decide +kernel
theorem kB_32 : (Int8.ofInt 32).toInt32 = (32 : Int32) := by decide +kernel
theorem kB_40 : (Int8.ofInt 40).toInt32 = (40 : Int32) := by decide +kernel
theorem kB_60 : (Int8.ofInt 60).toInt32 = (60 : Int32) := by decide +kernel
theorem kB_80 : (Int8.ofInt 80).toInt32 = (80 : Int32) := by decide +kernel
theorem kB_100 : (Int8.ofInt 100).toInt32 = (100 : Int32) := by decide +kernel
theorem kB_120 : (Int8.ofInt 120).toInt32 = (120 : Int32) := by decide +kernel
theorem kI_m1 : Int32.ofInt (-1) = ((-1) : Int32) := by decide +kernel
theorem kI_0 : Int32.ofInt 0 = (0 : Int32) := by decide +kernel
theorem kI_1 : Int32.ofInt 1 = (1 : Int32) := by decide +kernel
theorem kI_2 : Int32.ofInt 2 = (2 : Int32) := by decide +kernel
theorem kI_3 : Int32.ofInt 3 = (3 : Int32) := by decide +kernel
theorem kI_4 : Int32.ofInt 4 = (4 : Int32) := by decide +kernel
theorem kI_5 : Int32.ofInt 5 = (5 : Int32) := by decide +kernel
theorem kI_7 : Int32.ofInt 7 = (7 : Int32) := by decide +kernel
theorem kS_128 : (Int16.ofInt 128).toInt32 = (128 : Int32) := by decide +kernel
theorem kS_220 : (Int16.ofInt 220).toInt32 = (220 : Int32) := by decide +kernel
theorem kS_400 : (Int16.ofInt 400).toInt32 = (400 : Int32) := by decide +kernel
theorem kS_896 : (Int16.ofInt 896).toInt32 = (896 : Int32) := by decide +kernel
theorem kS_1000 : (Int16.ofInt 1000).toInt32 = (1000 : Int32) := by decide +kernel
theorem sw_out0_6 {x : Int32} (g0 : ¬ x = 0) (g1 : ¬ x = 1) (g2 : ¬ x = 2) (g3 : ¬ x = 3) (g4 : ¬ x = 4) (g5 : ¬ x = 5) (g6 : ¬ x = 6) : x.toInt < 0 ∨ 6 < x.toInt := by
  have a0 : x.toInt ≠ 0 := fun h => g0 (Int32.toInt_inj.mp (h.trans (by decide +kernel)))
  have a1 : x.toInt ≠ 1 := fun h => g1 (Int32.toInt_inj.mp (h.trans (by decide +kernel)))
  have a2 : x.toInt ≠ 2 := fun h => g2 (Int32.toInt_inj.mp (h.trans (by decide +kernel)))
  have a3 : x.toInt ≠ 3 := fun h => g3 (Int32.toInt_inj.mp (h.trans (by decide +kernel)))
  have a4 : x.toInt ≠ 4 := fun h => g4 (Int32.toInt_inj.mp (h.trans (by decide +kernel)))
  have a5 : x.toInt ≠ 5 := fun h => g5 (Int32.toInt_inj.mp (h.trans (by decide +kernel)))
  have a6 : x.toInt ≠ 6 := fun h => g6 (Int32.toInt_inj.mp (h.trans (by decide +kernel)))
  omega
theorem sw_out0_14 {x : Int32} (g0 : ¬ x = 0) (g1 : ¬ x = 1) (g2 : ¬ x = 2) (g3 : ¬ x = 3) (g4 : ¬ x = 4) (g5 : ¬ x = 5) (g6 : ¬ x = 6) (g7 : ¬ x = 7) (g8 : ¬ x = 8) (g9 : ¬ x = 9) (g10 : ¬ x = 10) (g11 : ¬ x = 11) (g12 : ¬ x = 12) (g13 : ¬ x = 13) (g14 : ¬ x = 14) : x.toInt < 0 ∨ 14 < x.toInt := by
  have a0 : x.toInt ≠ 0 := fun h => g0 (Int32.toInt_inj.mp (h.trans (by decide +kernel)))
  have a1 : x.toInt ≠ 1 := fun h => g1 (Int32.toInt_inj.mp (h.trans (by decide +kernel)))
  have a2 : x.toInt ≠ 2 := fun h => g2 (Int32.toInt_inj.mp (h.trans (by decide +kernel)))
  have a3 : x.toInt ≠ 3 := fun h => g3 (Int32.toInt_inj.mp (h.trans (by decide +kernel)))
  have a4 : x.toInt ≠ 4 := fun h => g4 (Int32.toInt_inj.mp (h.trans (by decide +kernel)))
  have a5 : x.toInt ≠ 5 := fun h => g5 (Int32.toInt_inj.mp (h.trans (by decide +kernel)))
  have a6 : x.toInt ≠ 6 := fun h => g6 (Int32.toInt_inj.mp (h.trans (by decide +kernel)))
  have a7 : x.toInt ≠ 7 := fun h => g7 (Int32.toInt_inj.mp (h.trans (by decide +kernel)))
  have a8 : x.toInt ≠ 8 := fun h => g8 (Int32.toInt_inj.mp (h.trans (by decide +kernel)))
  have a9 : x.toInt ≠ 9 := fun h => g9 (Int32.toInt_inj.mp (h.trans (by decide +kernel)))
  have a10 : x.toInt ≠ 10 := fun h => g10 (Int32.toInt_inj.mp (h.trans (by decide +kernel)))
  have a11 : x.toInt ≠ 11 := fun h => g11 (Int32.toInt_inj.mp (h.trans (by decide +kernel)))
  have a12 : x.toInt ≠ 12 := fun h => g12 (Int32.toInt_inj.mp (h.trans (by decide +kernel)))
  have a13 : x.toInt ≠ 13 := fun h => g13 (Int32.toInt_inj.mp (h.trans (by decide +kernel)))
  have a14 : x.toInt ≠ 14 := fun h => g14 (Int32.toInt_inj.mp (h.trans (by decide +kernel)))
  omega
end
section
/-! a method's rest as a function: the state s holds int fields (by cell and place) and arrays (by cell and index) -/
abbrev Ro : Type := Option (Int32 × Sg)
def ix (x : Int32) : Nat := x.toNatClampNeg
def inb (x : Int32) (n : Nat) : Bool := !decide (x < 0) && decide (ix x < n)
theorem inb_in {x : Int32} {n : Nat} (h : inb x n = true) : vp_in x n := by
  simp only [inb, Bool.and_eq_true, Bool.not_eq_true', decide_eq_false_iff_not, decide_eq_true_eq] at h
  intro g
  rcases g with g | g
  · exact h.1 g
  · exact absurd h.2 (Nat.not_lt.mpr g)
def isb (x : Int32) : Bool := decide (x = 0) || decide (x = 1)
theorem isb_or {x : Int32} (h : isb x = true) : x = 0 ∨ x = 1 := by simpa [isb] using h
theorem isb_nar {x : Int32} (h : isb x = true) : vp_nar .boolean x = x := by
  rcases isb_or h with rfl | rfl <;> rfl
theorem isb_narrow {x : Int32} (h : isb x = true) : narrow .boolean (.int x) = .int x := by
  rcases isb_or h with rfl | rfl <;> rfl
def nz (x : Int32) : Int32 := if x = 0 then 0 else 1
def bnd (f : Ro) (k : Int32 → Sg → Ro) : Ro := match f with
  | none => none
  | some (v, s) => k v s
theorem bnd_some (v : Int32) (s : Sg) (k : Int32 → Sg → Ro) : bnd (some (v, s)) k = k v s := rfl

def PQ (q : MI) (R : List AC) (out : Int32 × Sg) : Option AV → List AC → Prop := fun r h' => r = (mr q).map (fun _ => vi out.1) ∧ h' = HX out.2 R
def Gd (q : MI) (X : Option (Nat × (Nat → Int32))) (pc : Nat) (ρ : List (Option AV)) (st : List AV) (s : Sg) (R : List AC) (cu su : Nat) (o : Ro) : Prop := ∀ out, o = some out → Ev q X (PQ q R out) pc ρ st (HX s R) cu su
/-- a method's contract: it computes f -/
def Ct (q : MI) (avs : List AV) (s : Sg) (R : List AC) (f : Ro) : Prop := ∀ out, f = some out → EvM q avs (HX s R) (PQ q R out)
theorem Ct.of {q : MI} {avs : List AV} {s : Sg} {R : List AC} {f : Ro} (hy : plainName (my q).cls = true) (hn : decide (avs.length ≤ ml q) = true) {ρ : List (Option AV)} (hρ : avs.map some ++ List.replicate (ml q - avs.length) none = ρ) (k : Gd q none 0 ρ [] s R 0 0 f) : Ct q avs s R f := fun out e => EvM.of hy (of_decide_eq_true hn) (by rw [hρ]; exact k out e)

def itr1 (F : (Int32 → Sg → Ro) → Int32 → Sg → Ro) : Nat → Int32 → Sg → Ro
  | 0, _, _ => none
  | n + 1, x1, s => F (itr1 F n) x1 s
def itr2 (F : (Int32 → Int32 → Sg → Ro) → Int32 → Int32 → Sg → Ro) : Nat → Int32 → Int32 → Sg → Ro
  | 0, _, _, _ => none
  | n + 1, x1, x2, s => F (itr2 F n) x1 x2 s
def itr3 (F : (Int32 → Int32 → Int32 → Sg → Ro) → Int32 → Int32 → Int32 → Sg → Ro) : Nat → Int32 → Int32 → Int32 → Sg → Ro
  | 0, _, _, _, _ => none
  | n + 1, x1, x2, x3, s => F (itr3 F n) x1 x2 x3 s
def itr4 (F : (Int32 → Int32 → Int32 → Int32 → Sg → Ro) → Int32 → Int32 → Int32 → Int32 → Sg → Ro) : Nat → Int32 → Int32 → Int32 → Int32 → Sg → Ro
  | 0, _, _, _, _, _ => none
  | n + 1, x1, x2, x3, x4, s => F (itr4 F n) x1 x2 x3 x4 s
def itr5 (F : (Int32 → Int32 → Int32 → Int32 → Int32 → Sg → Ro) → Int32 → Int32 → Int32 → Int32 → Int32 → Sg → Ro) : Nat → Int32 → Int32 → Int32 → Int32 → Int32 → Sg → Ro
  | 0, _, _, _, _, _, _ => none
  | n + 1, x1, x2, x3, x4, x5, s => F (itr5 F n) x1 x2 x3 x4 x5 s
def itr6 (F : (Int32 → Int32 → Int32 → Int32 → Int32 → Int32 → Sg → Ro) → Int32 → Int32 → Int32 → Int32 → Int32 → Int32 → Sg → Ro) : Nat → Int32 → Int32 → Int32 → Int32 → Int32 → Int32 → Sg → Ro
  | 0, _, _, _, _, _, _, _ => none
  | n + 1, x1, x2, x3, x4, x5, x6, s => F (itr6 F n) x1 x2 x3 x4 x5 x6 s
def itr7 (F : (Int32 → Int32 → Int32 → Int32 → Int32 → Int32 → Int32 → Sg → Ro) → Int32 → Int32 → Int32 → Int32 → Int32 → Int32 → Int32 → Sg → Ro) : Nat → Int32 → Int32 → Int32 → Int32 → Int32 → Int32 → Int32 → Sg → Ro
  | 0, _, _, _, _, _, _, _, _ => none
  | n + 1, x1, x2, x3, x4, x5, x6, x7, s => F (itr7 F n) x1 x2 x3 x4 x5 x6 x7 s
def itr8 (F : (Int32 → Int32 → Int32 → Int32 → Int32 → Int32 → Int32 → Int32 → Sg → Ro) → Int32 → Int32 → Int32 → Int32 → Int32 → Int32 → Int32 → Int32 → Sg → Ro) : Nat → Int32 → Int32 → Int32 → Int32 → Int32 → Int32 → Int32 → Int32 → Sg → Ro
  | 0, _, _, _, _, _, _, _, _, _ => none
  | n + 1, x1, x2, x3, x4, x5, x6, x7, x8, s => F (itr8 F n) x1 x2 x3 x4 x5 x6 x7 x8 s
section GR
variable {q : MI} {X : Option (Nat × (Nat → Int32))} {pc pc' : Nat} {ρ : List (Option AV)} {st : List AV} {s : Sg} {R : List AC} {cu su : Nat} {o o1 o2 : Ro}
theorem G.ite {c : Prop} [Decidable c] (k1 : c → Gd q X pc ρ st s R cu su o1) (k2 : ¬ c → Gd q X pc ρ st s R cu su o2) : Gd q X pc ρ st s R cu su (if c then o1 else o2) := fun out e => by
  by_cases g : c
  · rw [if_pos g] at e
    exact k1 g out e
  · rw [if_neg g] at e
    exact k2 g out e
theorem G.no : Gd q X pc ρ st s R cu su none := fun out e => by cases e
theorem G.grd {c : Prop} [Decidable c] (k1 : c → Gd q X pc ρ st s R cu su o) : Gd q X pc ρ st s R cu su (if c then o else none) := G.ite k1 (fun _ => G.no)
theorem G.eqo (e0 : o1 = o2) (k : Gd q X pc ρ st s R cu su o2) : Gd q X pc ρ st s R cu su o1 := e0 ▸ k
theorem G.eqv {v w : AV} (e0 : v = w) (k : Gd q X pc ρ (w :: st) s R cu su o) : Gd q X pc ρ (v :: st) s R cu su o := e0 ▸ k
theorem G.mask (bs : List Bool) {ρ' : List (Option AV)} (hρ : lmask bs ρ = ρ') (k : Gd q X pc ρ' st s R cu su o) : Gd q X pc ρ st s R cu su o := fun out e => Ev.mask bs hρ (k out e)
theorem G.widen {cu' su' : Nat} (h1 : cu ≤ cu') (h2 : su ≤ su') (k : Gd q X pc ρ st s R cu' su' o) : Gd q X pc ρ st s R cu su o := fun out e => Ev.widen h1 h2 (k out e)
theorem G.loop1 {F : (Int32 → Sg → Ro) → Int32 → Sg → Ro} {rf : Int32 → List (Option AV)} (hb : ∀ rec : Int32 → Sg → Ro, (∀ (x1 : Int32) (s : Sg), Gd q X pc (rf x1) st s R cu su (rec x1 s)) → ∀ (x1 : Int32) (s : Sg), Gd q X pc (rf x1) st s R cu su (F rec x1 s)) : ∀ (n : Nat) (x1 : Int32) (s : Sg), Gd q X pc (rf x1) st s R cu su (itr1 F n x1 s) := by
  intro n
  induction n with
  | zero => intro x1 s out e; cases e
  | succ n ih => exact hb _ ih
theorem G.loop2 {F : (Int32 → Int32 → Sg → Ro) → Int32 → Int32 → Sg → Ro} {rf : Int32 → Int32 → List (Option AV)} (hb : ∀ rec : Int32 → Int32 → Sg → Ro, (∀ (x1 x2 : Int32) (s : Sg), Gd q X pc (rf x1 x2) st s R cu su (rec x1 x2 s)) → ∀ (x1 x2 : Int32) (s : Sg), Gd q X pc (rf x1 x2) st s R cu su (F rec x1 x2 s)) : ∀ (n : Nat) (x1 x2 : Int32) (s : Sg), Gd q X pc (rf x1 x2) st s R cu su (itr2 F n x1 x2 s) := by
  intro n
  induction n with
  | zero => intro x1 x2 s out e; cases e
  | succ n ih => exact hb _ ih
theorem G.loop3 {F : (Int32 → Int32 → Int32 → Sg → Ro) → Int32 → Int32 → Int32 → Sg → Ro} {rf : Int32 → Int32 → Int32 → List (Option AV)} (hb : ∀ rec : Int32 → Int32 → Int32 → Sg → Ro, (∀ (x1 x2 x3 : Int32) (s : Sg), Gd q X pc (rf x1 x2 x3) st s R cu su (rec x1 x2 x3 s)) → ∀ (x1 x2 x3 : Int32) (s : Sg), Gd q X pc (rf x1 x2 x3) st s R cu su (F rec x1 x2 x3 s)) : ∀ (n : Nat) (x1 x2 x3 : Int32) (s : Sg), Gd q X pc (rf x1 x2 x3) st s R cu su (itr3 F n x1 x2 x3 s) := by
  intro n
  induction n with
  | zero => intro x1 x2 x3 s out e; cases e
  | succ n ih => exact hb _ ih
theorem G.loop4 {F : (Int32 → Int32 → Int32 → Int32 → Sg → Ro) → Int32 → Int32 → Int32 → Int32 → Sg → Ro} {rf : Int32 → Int32 → Int32 → Int32 → List (Option AV)} (hb : ∀ rec : Int32 → Int32 → Int32 → Int32 → Sg → Ro, (∀ (x1 x2 x3 x4 : Int32) (s : Sg), Gd q X pc (rf x1 x2 x3 x4) st s R cu su (rec x1 x2 x3 x4 s)) → ∀ (x1 x2 x3 x4 : Int32) (s : Sg), Gd q X pc (rf x1 x2 x3 x4) st s R cu su (F rec x1 x2 x3 x4 s)) : ∀ (n : Nat) (x1 x2 x3 x4 : Int32) (s : Sg), Gd q X pc (rf x1 x2 x3 x4) st s R cu su (itr4 F n x1 x2 x3 x4 s) := by
  intro n
  induction n with
  | zero => intro x1 x2 x3 x4 s out e; cases e
  | succ n ih => exact hb _ ih
theorem G.loop5 {F : (Int32 → Int32 → Int32 → Int32 → Int32 → Sg → Ro) → Int32 → Int32 → Int32 → Int32 → Int32 → Sg → Ro} {rf : Int32 → Int32 → Int32 → Int32 → Int32 → List (Option AV)} (hb : ∀ rec : Int32 → Int32 → Int32 → Int32 → Int32 → Sg → Ro, (∀ (x1 x2 x3 x4 x5 : Int32) (s : Sg), Gd q X pc (rf x1 x2 x3 x4 x5) st s R cu su (rec x1 x2 x3 x4 x5 s)) → ∀ (x1 x2 x3 x4 x5 : Int32) (s : Sg), Gd q X pc (rf x1 x2 x3 x4 x5) st s R cu su (F rec x1 x2 x3 x4 x5 s)) : ∀ (n : Nat) (x1 x2 x3 x4 x5 : Int32) (s : Sg), Gd q X pc (rf x1 x2 x3 x4 x5) st s R cu su (itr5 F n x1 x2 x3 x4 x5 s) := by
  intro n
  induction n with
  | zero => intro x1 x2 x3 x4 x5 s out e; cases e
  | succ n ih => exact hb _ ih
theorem G.loop6 {F : (Int32 → Int32 → Int32 → Int32 → Int32 → Int32 → Sg → Ro) → Int32 → Int32 → Int32 → Int32 → Int32 → Int32 → Sg → Ro} {rf : Int32 → Int32 → Int32 → Int32 → Int32 → Int32 → List (Option AV)} (hb : ∀ rec : Int32 → Int32 → Int32 → Int32 → Int32 → Int32 → Sg → Ro, (∀ (x1 x2 x3 x4 x5 x6 : Int32) (s : Sg), Gd q X pc (rf x1 x2 x3 x4 x5 x6) st s R cu su (rec x1 x2 x3 x4 x5 x6 s)) → ∀ (x1 x2 x3 x4 x5 x6 : Int32) (s : Sg), Gd q X pc (rf x1 x2 x3 x4 x5 x6) st s R cu su (F rec x1 x2 x3 x4 x5 x6 s)) : ∀ (n : Nat) (x1 x2 x3 x4 x5 x6 : Int32) (s : Sg), Gd q X pc (rf x1 x2 x3 x4 x5 x6) st s R cu su (itr6 F n x1 x2 x3 x4 x5 x6 s) := by
  intro n
  induction n with
  | zero => intro x1 x2 x3 x4 x5 x6 s out e; cases e
  | succ n ih => exact hb _ ih
theorem G.loop7 {F : (Int32 → Int32 → Int32 → Int32 → Int32 → Int32 → Int32 → Sg → Ro) → Int32 → Int32 → Int32 → Int32 → Int32 → Int32 → Int32 → Sg → Ro} {rf : Int32 → Int32 → Int32 → Int32 → Int32 → Int32 → Int32 → List (Option AV)} (hb : ∀ rec : Int32 → Int32 → Int32 → Int32 → Int32 → Int32 → Int32 → Sg → Ro, (∀ (x1 x2 x3 x4 x5 x6 x7 : Int32) (s : Sg), Gd q X pc (rf x1 x2 x3 x4 x5 x6 x7) st s R cu su (rec x1 x2 x3 x4 x5 x6 x7 s)) → ∀ (x1 x2 x3 x4 x5 x6 x7 : Int32) (s : Sg), Gd q X pc (rf x1 x2 x3 x4 x5 x6 x7) st s R cu su (F rec x1 x2 x3 x4 x5 x6 x7 s)) : ∀ (n : Nat) (x1 x2 x3 x4 x5 x6 x7 : Int32) (s : Sg), Gd q X pc (rf x1 x2 x3 x4 x5 x6 x7) st s R cu su (itr7 F n x1 x2 x3 x4 x5 x6 x7 s) := by
  intro n
  induction n with
  | zero => intro x1 x2 x3 x4 x5 x6 x7 s out e; cases e
  | succ n ih => exact hb _ ih
theorem G.loop8 {F : (Int32 → Int32 → Int32 → Int32 → Int32 → Int32 → Int32 → Int32 → Sg → Ro) → Int32 → Int32 → Int32 → Int32 → Int32 → Int32 → Int32 → Int32 → Sg → Ro} {rf : Int32 → Int32 → Int32 → Int32 → Int32 → Int32 → Int32 → Int32 → List (Option AV)} (hb : ∀ rec : Int32 → Int32 → Int32 → Int32 → Int32 → Int32 → Int32 → Int32 → Sg → Ro, (∀ (x1 x2 x3 x4 x5 x6 x7 x8 : Int32) (s : Sg), Gd q X pc (rf x1 x2 x3 x4 x5 x6 x7 x8) st s R cu su (rec x1 x2 x3 x4 x5 x6 x7 x8 s)) → ∀ (x1 x2 x3 x4 x5 x6 x7 x8 : Int32) (s : Sg), Gd q X pc (rf x1 x2 x3 x4 x5 x6 x7 x8) st s R cu su (F rec x1 x2 x3 x4 x5 x6 x7 x8 s)) : ∀ (n : Nat) (x1 x2 x3 x4 x5 x6 x7 x8 : Int32) (s : Sg), Gd q X pc (rf x1 x2 x3 x4 x5 x6 x7 x8) st s R cu su (itr8 F n x1 x2 x3 x4 x5 x6 x7 x8 s) := by
  intro n
  induction n with
  | zero => intro x1 x2 x3 x4 x5 x6 x7 x8 s out e; cases e
  | succ n ih => exact hb _ ih
theorem G.iadd {x y : Int32} (hd : decode (mb q) pc = .ok (.iadd, 1)) (hp : pc + 1 = pc') (k : Gd q X pc' ρ (vi (x + y) :: st) s R cu su o) : Gd q X pc ρ (vi y :: vi x :: st) s R cu su o := fun out e => by subst hp; exact Ev.iadd hd (k out e)
theorem G.isub {x y : Int32} (hd : decode (mb q) pc = .ok (.isub, 1)) (hp : pc + 1 = pc') (k : Gd q X pc' ρ (vi (x - y) :: st) s R cu su o) : Gd q X pc ρ (vi y :: vi x :: st) s R cu su o := fun out e => by subst hp; exact Ev.isub hd (k out e)
theorem G.imul {x y : Int32} (hd : decode (mb q) pc = .ok (.imul, 1)) (hp : pc + 1 = pc') (k : Gd q X pc' ρ (vi (x * y) :: st) s R cu su o) : Gd q X pc ρ (vi y :: vi x :: st) s R cu su o := fun out e => by subst hp; exact Ev.imul hd (k out e)
theorem G.iand {x y : Int32} (hd : decode (mb q) pc = .ok (.iand, 1)) (hp : pc + 1 = pc') (k : Gd q X pc' ρ (vi (x &&& y) :: st) s R cu su o) : Gd q X pc ρ (vi y :: vi x :: st) s R cu su o := fun out e => by subst hp; exact Ev.iand hd (k out e)
theorem G.ior {x y : Int32} (hd : decode (mb q) pc = .ok (.ior, 1)) (hp : pc + 1 = pc') (k : Gd q X pc' ρ (vi (x ||| y) :: st) s R cu su o) : Gd q X pc ρ (vi y :: vi x :: st) s R cu su o := fun out e => by subst hp; exact Ev.ior hd (k out e)
theorem G.ixor {x y : Int32} (hd : decode (mb q) pc = .ok (.ixor, 1)) (hp : pc + 1 = pc') (k : Gd q X pc' ρ (vi (x ^^^ y) :: st) s R cu su o) : Gd q X pc ρ (vi y :: vi x :: st) s R cu su o := fun out e => by subst hp; exact Ev.ixor hd (k out e)
theorem G.ishl {x y : Int32} (hd : decode (mb q) pc = .ok (.ishl, 1)) (hp : pc + 1 = pc') (k : Gd q X pc' ρ (vi (x <<< (y &&& 31)) :: st) s R cu su o) : Gd q X pc ρ (vi y :: vi x :: st) s R cu su o := fun out e => by subst hp; exact Ev.ishl hd (k out e)
theorem G.ishr {x y : Int32} (hd : decode (mb q) pc = .ok (.ishr, 1)) (hp : pc + 1 = pc') (k : Gd q X pc' ρ (vi (x >>> (y &&& 31)) :: st) s R cu su o) : Gd q X pc ρ (vi y :: vi x :: st) s R cu su o := fun out e => by subst hp; exact Ev.ishr hd (k out e)
theorem G.ineg {x : Int32} (hd : decode (mb q) pc = .ok (.ineg, 1)) (hp : pc + 1 = pc') (k : Gd q X pc' ρ (vi (-x) :: st) s R cu su o) : Gd q X pc ρ (vi x :: st) s R cu su o := fun out e => by subst hp; exact Ev.ineg hd (k out e)
theorem G.idiv {x y : Int32} (hd : decode (mb q) pc = .ok (.idiv, 1)) (hp : pc + 1 = pc') (k : Gd q X pc' ρ (vi (x / y) :: st) s R cu su o) : Gd q X pc ρ (vi y :: vi x :: st) s R cu su (if y = 0 then none else o) := G.ite (fun _ => G.no) (fun hne out e => by subst hp; exact Ev.idiv hd hne (k out e))
theorem G.idivK {x y : Int32} (hne : ¬ y = 0) (hd : decode (mb q) pc = .ok (.idiv, 1)) (hp : pc + 1 = pc') (k : Gd q X pc' ρ (vi (x / y) :: st) s R cu su o) : Gd q X pc ρ (vi y :: vi x :: st) s R cu su o := fun out e => by subst hp; exact Ev.idiv hd hne (k out e)
theorem G.irem {x y : Int32} (hd : decode (mb q) pc = .ok (.irem, 1)) (hp : pc + 1 = pc') (k : Gd q X pc' ρ (vi (x - x / y * y) :: st) s R cu su o) : Gd q X pc ρ (vi y :: vi x :: st) s R cu su (if y = 0 then none else o) := G.ite (fun _ => G.no) (fun hne out e => by subst hp; exact Ev.irem hd hne (k out e))
theorem G.iremK {x y : Int32} (hne : ¬ y = 0) (hd : decode (mb q) pc = .ok (.irem, 1)) (hp : pc + 1 = pc') (k : Gd q X pc' ρ (vi (x - x / y * y) :: st) s R cu su o) : Gd q X pc ρ (vi y :: vi x :: st) s R cu su o := fun out e => by subst hp; exact Ev.irem hd hne (k out e)
theorem G.iushr {x y v : Int32} (hd : decode (mb q) pc = .ok (.iushr, 1)) (hp : pc + 1 = pc') (hv : (x.toUInt32 >>> (y.toUInt32 &&& Int32.toUInt32 31)).toInt32 = v) (k : Gd q X pc' ρ (vi v :: st) s R cu su o) : Gd q X pc ρ (vi y :: vi x :: st) s R cu su o := fun out e => by subst hp; exact Ev.iushr hd hv (k out e)
theorem G.iconst {n : Int} {v : Int32} (hd : decode (mb q) pc = .ok (.iconst n, 1)) (hp : pc + 1 = pc') (hv : Int32.ofInt n = v) (k : Gd q X pc' ρ (vi v :: st) s R cu su o) : Gd q X pc ρ (st) s R cu su o := fun out e => by subst hp; exact Ev.iconst hd hv (k out e)
theorem G.bipush {n : Int} {v : Int32} (hd : decode (mb q) pc = .ok (.bipush n, 2)) (hp : pc + 2 = pc') (hv : (Int8.ofInt n).toInt32 = v) (k : Gd q X pc' ρ (vi v :: st) s R cu su o) : Gd q X pc ρ (st) s R cu su o := fun out e => by subst hp; exact Ev.bipush hd hv (k out e)
theorem G.sipush {n : Int} {v : Int32} (hd : decode (mb q) pc = .ok (.sipush n, 3)) (hp : pc + 3 = pc') (hv : (Int16.ofInt n).toInt32 = v) (k : Gd q X pc' ρ (vi v :: st) s R cu su o) : Gd q X pc ρ (st) s R cu su o := fun out e => by subst hp; exact Ev.sipush hd hv (k out e)
theorem G.ldc {n : Nat} {v : Int32} (hd : decode (mb q) pc = .ok (.ldc n, 2)) (hp : pc + 2 = pc') (hv : Cond.constant (my q).cls n v ∈ Wt) (k : Gd q X pc' ρ (vi v :: st) s R cu su o) : Gd q X pc ρ (st) s R cu su o := fun out e => by subst hp; exact Ev.ldc hd hv (k out e)
theorem G.iload_n {k4 : Fin 4} {x : Int32} (hd : decode (mb q) pc = .ok (.iload_n k4, 1)) (hp : pc + 1 = pc') (hl : ρ[(k4 : Nat)]? = some (some (vi x))) (k : Gd q X pc' ρ (vi x :: st) s R cu su o) : Gd q X pc ρ (st) s R cu su o := fun out e => by subst hp; exact Ev.iload_n hd hl (k out e)
theorem G.iload {i : Nat} {x : Int32} (hd : decode (mb q) pc = .ok (.iload i, 2)) (hp : pc + 2 = pc') (hl : ρ[i]? = some (some (vi x))) (k : Gd q X pc' ρ (vi x :: st) s R cu su o) : Gd q X pc ρ (st) s R cu su o := fun out e => by subst hp; exact Ev.iload hd hl (k out e)
theorem G.aload_n {k4 : Fin 4} {x : Nat} (hd : decode (mb q) pc = .ok (.aload_n k4, 1)) (hp : pc + 1 = pc') (hl : ρ[(k4 : Nat)]? = some (some (vr x))) (k : Gd q X pc' ρ (vr x :: st) s R cu su o) : Gd q X pc ρ (st) s R cu su o := fun out e => by subst hp; exact Ev.aload_n hd hl (k out e)
theorem G.aload {i : Nat} {x : Nat} (hd : decode (mb q) pc = .ok (.aload i, 2)) (hp : pc + 2 = pc') (hl : ρ[i]? = some (some (vr x))) (k : Gd q X pc' ρ (vr x :: st) s R cu su o) : Gd q X pc ρ (st) s R cu su o := fun out e => by subst hp; exact Ev.aload hd hl (k out e)
theorem G.aloadS_n {k4 : Fin 4} (hd : decode (mb q) pc = .ok (.aload_n k4, 1)) (hp : pc + 1 = pc') (hl : ρ[(k4 : Nat)]? = some (some vs)) (k : Gd q X pc' ρ (vs :: st) s R cu su o) : Gd q X pc ρ (st) s R cu su o := fun out e => by subst hp; exact Ev.aloadS_n hd hl (k out e)
theorem G.istore_n {k4 : Fin 4} {x : Int32} {ρ' : List (Option AV)} (hd : decode (mb q) pc = .ok (.istore_n k4, 1)) (hp : pc + 1 = pc') (hl : (k4 : Nat) < ml q) (hρ : ρ.set (k4 : Nat) (some (vi x)) = ρ') (k : Gd q X pc' ρ' st s R cu su o) : Gd q X pc ρ (vi x :: st) s R cu su o := fun out e => by subst hp; exact Ev.istore_n hd hl hρ (k out e)
theorem G.istore {i : Nat} {x : Int32} {ρ' : List (Option AV)} (hd : decode (mb q) pc = .ok (.istore i, 2)) (hp : pc + 2 = pc') (hl : i < ml q) (hρ : ρ.set i (some (vi x)) = ρ') (k : Gd q X pc' ρ' st s R cu su o) : Gd q X pc ρ (vi x :: st) s R cu su o := fun out e => by subst hp; exact Ev.istore hd hl hρ (k out e)
theorem G.astore_n {k4 : Fin 4} {x : Nat} {ρ' : List (Option AV)} (hd : decode (mb q) pc = .ok (.astore_n k4, 1)) (hp : pc + 1 = pc') (hl : (k4 : Nat) < ml q) (hρ : ρ.set (k4 : Nat) (some (vr x)) = ρ') (k : Gd q X pc' ρ' st s R cu su o) : Gd q X pc ρ (vr x :: st) s R cu su o := fun out e => by subst hp; exact Ev.astore_n hd hl hρ (k out e)
theorem G.astore {i : Nat} {x : Nat} {ρ' : List (Option AV)} (hd : decode (mb q) pc = .ok (.astore i, 2)) (hp : pc + 2 = pc') (hl : i < ml q) (hρ : ρ.set i (some (vr x)) = ρ') (k : Gd q X pc' ρ' st s R cu su o) : Gd q X pc ρ (vr x :: st) s R cu su o := fun out e => by subst hp; exact Ev.astore hd hl hρ (k out e)
theorem G.iinc {i : Nat} {n : Int} {x w v : Int32} {ρ' : List (Option AV)} (hd : decode (mb q) pc = .ok (.iinc i n, 3)) (hp : pc + 3 = pc') (hx : ρ[i]? = some (some (vi x))) (hl : i < ml q) (hw : Int32.ofInt n = w) (hv : x + w = v) (hρ : ρ.set i (some (vi v)) = ρ') (k : Gd q X pc' ρ' st s R cu su o) : Gd q X pc ρ st s R cu su o := fun out e => by subst hp; exact Ev.iinc hd hx hl (by rw [hw]; exact hv) hρ (k out e)
theorem G.dup {v : AV} (hd : decode (mb q) pc = .ok (.dup, 1)) (hp : pc + 1 = pc') (k : Gd q X pc' ρ (v :: v :: st) s R cu su o) : Gd q X pc ρ (v :: st) s R cu su o := fun out e => by subst hp; exact Ev.dup hd (k out e)
theorem G.pop {v : AV} (hd : decode (mb q) pc = .ok (.pop, 1)) (hp : pc + 1 = pc') (k : Gd q X pc' ρ (st) s R cu su o) : Gd q X pc ρ (v :: st) s R cu su o := fun out e => by subst hp; exact Ev.pop hd (k out e)
theorem G.dup_x1 {v w : AV} (hd : decode (mb q) pc = .ok (.dup_x1, 1)) (hp : pc + 1 = pc') (k : Gd q X pc' ρ (v :: w :: v :: st) s R cu su o) : Gd q X pc ρ (v :: w :: st) s R cu su o := fun out e => by subst hp; exact Ev.dup_x1 hd (k out e)
theorem G.dup_x2 {v w u : AV} (hd : decode (mb q) pc = .ok (.dup_x2, 1)) (hp : pc + 1 = pc') (k : Gd q X pc' ρ (v :: w :: u :: v :: st) s R cu su o) : Gd q X pc ρ (v :: w :: u :: st) s R cu su o := fun out e => by subst hp; exact Ev.dup_x2 hd (k out e)
theorem G.dup2 {v w : AV} (hd : decode (mb q) pc = .ok (.dup2, 1)) (hp : pc + 1 = pc') (k : Gd q X pc' ρ (v :: w :: v :: w :: st) s R cu su o) : Gd q X pc ρ (v :: w :: st) s R cu su o := fun out e => by subst hp; exact Ev.dup2 hd (k out e)
theorem G.null (hd : decode (mb q) pc = .ok (.aconst_null, 1)) (hp : pc + 1 = pc') (k : Gd q X pc' ρ (vn :: st) s R cu su o) : Gd q X pc ρ (st) s R cu su o := fun out e => by subst hp; exact Ev.null hd (k out e)
theorem G.if_eq {x : Int32} {off : Int} {tgt : Nat} (hd : decode (mb q) pc = .ok (.ifCond .eq off, 3)) (hp : pc + 3 = pc') (ht : (pc : Int) + off = (tgt : Int)) (k1 : Gd q X tgt ρ st s R cu su o1) (k2 : Gd q X pc' ρ st s R cu su o2) : Gd q X pc ρ (vi x :: st) s R cu su (if x = 0 then o1 else o2) := G.ite (fun g out e => by subst hp; exact Ev.if_eq hd ht (fun _ => k1 out e) (fun z => absurd g z)) (fun g out e => by subst hp; exact Ev.if_eq hd ht (fun z => absurd z g) (fun _ => k2 out e))
theorem G.if_ne {x : Int32} {off : Int} {tgt : Nat} (hd : decode (mb q) pc = .ok (.ifCond .ne off, 3)) (hp : pc + 3 = pc') (ht : (pc : Int) + off = (tgt : Int)) (k2 : Gd q X pc' ρ st s R cu su o2) (k1 : Gd q X tgt ρ st s R cu su o1) : Gd q X pc ρ (vi x :: st) s R cu su (if x = 0 then o2 else o1) := G.ite (fun g out e => by subst hp; exact Ev.if_ne hd ht (fun z => absurd g z) (fun _ => k2 out e)) (fun g out e => by subst hp; exact Ev.if_ne hd ht (fun _ => k1 out e) (fun z => absurd z g))
theorem G.if_lt {x : Int32} {off : Int} {tgt : Nat} (hd : decode (mb q) pc = .ok (.ifCond .lt off, 3)) (hp : pc + 3 = pc') (ht : (pc : Int) + off = (tgt : Int)) (k1 : Gd q X tgt ρ st s R cu su o1) (k2 : Gd q X pc' ρ st s R cu su o2) : Gd q X pc ρ (vi x :: st) s R cu su (if x < 0 then o1 else o2) := G.ite (fun g out e => by subst hp; exact Ev.if_lt hd ht (fun _ => k1 out e) (fun z => absurd g z)) (fun g out e => by subst hp; exact Ev.if_lt hd ht (fun z => absurd z g) (fun _ => k2 out e))
theorem G.if_ge {x : Int32} {off : Int} {tgt : Nat} (hd : decode (mb q) pc = .ok (.ifCond .ge off, 3)) (hp : pc + 3 = pc') (ht : (pc : Int) + off = (tgt : Int)) (k1 : Gd q X tgt ρ st s R cu su o1) (k2 : Gd q X pc' ρ st s R cu su o2) : Gd q X pc ρ (vi x :: st) s R cu su (if 0 ≤ x then o1 else o2) := G.ite (fun g out e => by subst hp; exact Ev.if_ge hd ht (fun _ => k1 out e) (fun z => absurd g z)) (fun g out e => by subst hp; exact Ev.if_ge hd ht (fun z => absurd z g) (fun _ => k2 out e))
theorem G.if_gt {x : Int32} {off : Int} {tgt : Nat} (hd : decode (mb q) pc = .ok (.ifCond .gt off, 3)) (hp : pc + 3 = pc') (ht : (pc : Int) + off = (tgt : Int)) (k1 : Gd q X tgt ρ st s R cu su o1) (k2 : Gd q X pc' ρ st s R cu su o2) : Gd q X pc ρ (vi x :: st) s R cu su (if 0 < x then o1 else o2) := G.ite (fun g out e => by subst hp; exact Ev.if_gt hd ht (fun _ => k1 out e) (fun z => absurd g z)) (fun g out e => by subst hp; exact Ev.if_gt hd ht (fun z => absurd z g) (fun _ => k2 out e))
theorem G.if_le {x : Int32} {off : Int} {tgt : Nat} (hd : decode (mb q) pc = .ok (.ifCond .le off, 3)) (hp : pc + 3 = pc') (ht : (pc : Int) + off = (tgt : Int)) (k1 : Gd q X tgt ρ st s R cu su o1) (k2 : Gd q X pc' ρ st s R cu su o2) : Gd q X pc ρ (vi x :: st) s R cu su (if x ≤ 0 then o1 else o2) := G.ite (fun g out e => by subst hp; exact Ev.if_le hd ht (fun _ => k1 out e) (fun z => absurd g z)) (fun g out e => by subst hp; exact Ev.if_le hd ht (fun z => absurd z g) (fun _ => k2 out e))
theorem G.icmp_eq {x y : Int32} {off : Int} {tgt : Nat} (hd : decode (mb q) pc = .ok (.if_icmp .eq off, 3)) (hp : pc + 3 = pc') (ht : (pc : Int) + off = (tgt : Int)) (k1 : Gd q X tgt ρ st s R cu su o1) (k2 : Gd q X pc' ρ st s R cu su o2) : Gd q X pc ρ (vi y :: vi x :: st) s R cu su (if x = y then o1 else o2) := G.ite (fun g out e => by subst hp; exact Ev.icmp_eq hd ht (fun _ => k1 out e) (fun z => absurd g z)) (fun g out e => by subst hp; exact Ev.icmp_eq hd ht (fun z => absurd z g) (fun _ => k2 out e))
theorem G.icmp_ne {x y : Int32} {off : Int} {tgt : Nat} (hd : decode (mb q) pc = .ok (.if_icmp .ne off, 3)) (hp : pc + 3 = pc') (ht : (pc : Int) + off = (tgt : Int)) (k2 : Gd q X pc' ρ st s R cu su o2) (k1 : Gd q X tgt ρ st s R cu su o1) : Gd q X pc ρ (vi y :: vi x :: st) s R cu su (if x = y then o2 else o1) := G.ite (fun g out e => by subst hp; exact Ev.icmp_ne hd ht (fun z => absurd g z) (fun _ => k2 out e)) (fun g out e => by subst hp; exact Ev.icmp_ne hd ht (fun _ => k1 out e) (fun z => absurd z g))
theorem G.icmp_lt {x y : Int32} {off : Int} {tgt : Nat} (hd : decode (mb q) pc = .ok (.if_icmp .lt off, 3)) (hp : pc + 3 = pc') (ht : (pc : Int) + off = (tgt : Int)) (k1 : Gd q X tgt ρ st s R cu su o1) (k2 : Gd q X pc' ρ st s R cu su o2) : Gd q X pc ρ (vi y :: vi x :: st) s R cu su (if x < y then o1 else o2) := G.ite (fun g out e => by subst hp; exact Ev.icmp_lt hd ht (fun _ => k1 out e) (fun z => absurd g z)) (fun g out e => by subst hp; exact Ev.icmp_lt hd ht (fun z => absurd z g) (fun _ => k2 out e))
theorem G.icmp_ge {x y : Int32} {off : Int} {tgt : Nat} (hd : decode (mb q) pc = .ok (.if_icmp .ge off, 3)) (hp : pc + 3 = pc') (ht : (pc : Int) + off = (tgt : Int)) (k1 : Gd q X tgt ρ st s R cu su o1) (k2 : Gd q X pc' ρ st s R cu su o2) : Gd q X pc ρ (vi y :: vi x :: st) s R cu su (if y ≤ x then o1 else o2) := G.ite (fun g out e => by subst hp; exact Ev.icmp_ge hd ht (fun _ => k1 out e) (fun z => absurd g z)) (fun g out e => by subst hp; exact Ev.icmp_ge hd ht (fun z => absurd z g) (fun _ => k2 out e))
theorem G.icmp_gt {x y : Int32} {off : Int} {tgt : Nat} (hd : decode (mb q) pc = .ok (.if_icmp .gt off, 3)) (hp : pc + 3 = pc') (ht : (pc : Int) + off = (tgt : Int)) (k1 : Gd q X tgt ρ st s R cu su o1) (k2 : Gd q X pc' ρ st s R cu su o2) : Gd q X pc ρ (vi y :: vi x :: st) s R cu su (if y < x then o1 else o2) := G.ite (fun g out e => by subst hp; exact Ev.icmp_gt hd ht (fun _ => k1 out e) (fun z => absurd g z)) (fun g out e => by subst hp; exact Ev.icmp_gt hd ht (fun z => absurd z g) (fun _ => k2 out e))
theorem G.icmp_le {x y : Int32} {off : Int} {tgt : Nat} (hd : decode (mb q) pc = .ok (.if_icmp .le off, 3)) (hp : pc + 3 = pc') (ht : (pc : Int) + off = (tgt : Int)) (k1 : Gd q X tgt ρ st s R cu su o1) (k2 : Gd q X pc' ρ st s R cu su o2) : Gd q X pc ρ (vi y :: vi x :: st) s R cu su (if x ≤ y then o1 else o2) := G.ite (fun g out e => by subst hp; exact Ev.icmp_le hd ht (fun _ => k1 out e) (fun z => absurd g z)) (fun g out e => by subst hp; exact Ev.icmp_le hd ht (fun z => absurd z g) (fun _ => k2 out e))
theorem G.goto {off : Int} {tgt : Nat} (hd : decode (mb q) pc = .ok (.goto off, 3)) (ht : (pc : Int) + off = (tgt : Int)) (k : Gd q X tgt ρ st s R cu su o) : Gd q X pc ρ st s R cu su o := fun out e => Ev.goto hd ht (k out e)
/-- a switch by cases of its number -/
theorem G.tabIn {dflt lo hi : Int} {offs : Array Int} {len : Nat} {x c : Int32} {off : Int} {tgt : Nat} (hd : decode (mb q) pc = .ok (.tableswitch dflt lo hi offs, len)) (e0 : x = c) (h1 : ¬ c.toInt < lo ∧ ¬ hi < c.toInt) (ho : offs[(c.toInt - lo).toNat]? = some off) (ht : (pc : Int) + off = (tgt : Int)) (k : Gd q X tgt ρ st s R cu su o) : Gd q X pc ρ (vi x :: st) s R cu su o := fun out e => by subst e0; exact Ev.tableIn hd h1.1 h1.2 ho ht (k out e)
theorem G.tabOut {dflt lo hi : Int} {offs : Array Int} {len : Nat} {x : Int32} {tgt : Nat} (hd : decode (mb q) pc = .ok (.tableswitch dflt lo hi offs, len)) (hx : x.toInt < lo ∨ hi < x.toInt) (ht : (pc : Int) + dflt = (tgt : Int)) (k : Gd q X tgt ρ st s R cu su o) : Gd q X pc ρ (vi x :: st) s R cu su o := fun out e => Ev.tableOut hd hx ht (k out e)
theorem G.look {dflt : Int} {ps : Array (Int × Int)} {len : Nat} {x c : Int32} {off : Int} {tgt : Nat} (hd : decode (mb q) pc = .ok (.lookupswitch dflt ps, len)) (e0 : x = c) (hp : (ps.toList.zip (ps.toList.drop 1)).all (fun (a, next) => a.1 < next.1) = true) (ho : Op.lookupswitch.offset ps.toList dflt c.toInt = off) (ht : (pc : Int) + off = (tgt : Int)) (k : Gd q X tgt ρ st s R cu su o) : Gd q X pc ρ (vi x :: st) s R cu su o := fun out e => by subst e0; exact Ev.lookup hd hp ho ht (k out e)
theorem G.lookOut {dflt : Int} {ps : Array (Int × Int)} {len : Nat} {x : Int32} {tgt : Nat} (hd : decode (mb q) pc = .ok (.lookupswitch dflt ps, len)) (hp : (ps.toList.zip (ps.toList.drop 1)).all (fun (a, next) => a.1 < next.1) = true) (ho : Op.lookupswitch.offset ps.toList dflt x.toInt = dflt) (ht : (pc : Int) + dflt = (tgt : Int)) (k : Gd q X tgt ρ st s R cu su o) : Gd q X pc ρ (vi x :: st) s R cu su o := fun out e => Ev.lookup hd hp ho ht (k out e)
/-- x != 0 as a value -/
theorem G.bz {x : Int32} {o0 o3 : Int} {p1 p2 p3 p4 : Nat} (hd : decode (mb q) pc = .ok (.ifCond .eq o0, 3)) (hp : pc + 3 = p1) (ht : (pc : Int) + o0 = (p3 : Int)) (hd1 : decode (mb q) p1 = .ok (.iconst 1, 1)) (hp1 : p1 + 1 = p2) (hd2 : decode (mb q) p2 = .ok (.goto o3, 3)) (ht2 : (p2 : Int) + o3 = (p4 : Int)) (hd3 : decode (mb q) p3 = .ok (.iconst 0, 1)) (hp3 : p3 + 1 = p4) (k : Gd q X p4 ρ (vi (nz x) :: st) s R cu su o) : Gd q X pc ρ (vi x :: st) s R cu su o := fun out e => by
  subst hp; subst hp1; subst hp3
  refine Ev.if_eq hd ht (fun g => Ev.iconst hd3 (v := 0) (by decide) ?_) (fun g => Ev.iconst hd1 (v := 1) (by decide) (Ev.goto hd2 ht2 ?_))
  · have := k out e
    rwa [nz, if_pos g] at this
  · have := k out e
    rwa [nz, if_neg g] at this
/-- fields and arrays -/
theorem G.get {idx i ci kf : Nat} {fs : List AV} {v : AV} (hd : decode (mb q) pc = .ok (.getfield idx, 3)) (hp : pc + 3 = pc') (hf : FG (my q).cls idx ci kf) (ho : (HX s R)[i]? = some (ao ci fs)) (hv : fs[kf]? = some v) (k : Gd q X pc' ρ (v :: st) s R cu su o) : Gd q X pc ρ (vr i :: st) s R cu su o := fun out e => by subst hp; exact Ev.get hd hf ho hv (k out e)
theorem G.put {idx i ci kf : Nat} {ty : FieldType} {fs : List AV} {v : AV} {s' : Sg} (hd : decode (mb q) pc = .ok (.putfield idx, 3)) (hp : pc + 3 = pc') (hf : FPo (my q).cls idx ci kf ty) (hw : okt ty v) (ho : (HX s R)[i]? = some (ao ci fs)) (hl : decide (kf < fs.length) = true) (hh : (HX s R).set i (ao ci (fs.set kf v)) = HX s' R) (k : Gd q X pc' ρ st s' R cu su o) : Gd q X pc ρ (v :: vr i :: st) s R cu su o := fun out e => by subst hp; exact Ev.put hd hf hw ho (of_decide_eq_true hl) hh (k out e)
theorem G.iald {i n : Nat} {f : Nat → Int32} {x : Int32} (hd : decode (mb q) pc = .ok (.iaload, 1)) (hp : pc + 1 = pc') (ha : (HX s R)[i]? = some (ai .int n f)) (k : Gd q X pc' ρ (vi (f (ix x)) :: st) s R cu su o) : Gd q X pc ρ (vi x :: vr i :: st) s R cu su (if inb x n = true then o else none) := G.grd (fun g out e => by subst hp; exact Ev.iald hd ha (inb_in g) (k out e))
theorem G.zald {i n : Nat} {f : Nat → Int32} {x : Int32} (hd : decode (mb q) pc = .ok (.baload, 1)) (hp : pc + 1 = pc') (ha : (HX s R)[i]? = some (ai .boolean n f)) (k : Gd q X pc' ρ (vi (f (ix x)) :: st) s R cu su o) : Gd q X pc ρ (vi x :: vr i :: st) s R cu su (if inb x n = true then o else none) := G.grd (fun g out e => by subst hp; exact Ev.zald hd ha (inb_in g) (k out e))
theorem G.iast {i n : Nat} {f : Nat → Int32} {x y : Int32} {s' : Sg} (hd : decode (mb q) pc = .ok (.iastore, 1)) (hp : pc + 1 = pc') (ha : (HX s R)[i]? = some (ai .int n f)) (hh : (HX s R).set i (ai .int n (upd f (ix x) y)) = HX s' R) (k : Gd q X pc' ρ st s' R cu su o) : Gd q X pc ρ (vi y :: vi x :: vr i :: st) s R cu su (if inb x n = true then o else none) := G.grd (fun g out e => by subst hp; exact Ev.iast hd ha (inb_in g) hh (k out e))
theorem G.zast {i n : Nat} {f : Nat → Int32} {x y : Int32} {s' : Sg} (hd : decode (mb q) pc = .ok (.bastore, 1)) (hp : pc + 1 = pc') (ha : (HX s R)[i]? = some (ai .boolean n f)) (hh : (HX s R).set i (ai .boolean n (upd f (ix x) y)) = HX s' R) (k : Gd q X pc' ρ st s' R cu su o) : Gd q X pc ρ (vi y :: vi x :: vr i :: st) s R cu su (if inb x n = true then (if isb y = true then o else none) else none) := G.grd (fun g => G.grd (fun g2 out e => by subst hp; exact Ev.zast hd ha (inb_in g) (isb_nar g2) hh (k out e)))
theorem G.alen {i n : Nat} {ty : FieldType} {f : Nat → Int32} {v : Int32} (hd : decode (mb q) pc = .ok (.arraylength, 1)) (hp : pc + 1 = pc') (ha : (HX s R)[i]? = some (ai ty n f)) (hv : Int32.ofNat n = v) (k : Gd q X pc' ρ (vi v :: st) s R cu su o) : Gd q X pc ρ (vr i :: st) s R cu su o := fun out e => by subst hp; exact Ev.alen hd ha hv (k out e)
theorem G.sld {L0 : Nat} {xs : Nat → Int32} {x : Int32} (hd : decode (mb q) pc = .ok (.iaload, 1)) (hp : pc + 1 = pc') (k : Gd q (some (L0, xs)) pc' ρ (vi (xs (ix x)) :: st) s R cu su o) : Gd q (some (L0, xs)) pc ρ (vi x :: vs :: st) s R cu su (if inb x L0 = true then o else none) := G.grd (fun g out e => by subst hp; exact Ev.sld rfl hd (inb_in g) (k out e))
theorem G.slen {L0 : Nat} {xs : Nat → Int32} (hd : decode (mb q) pc = .ok (.arraylength, 1)) (hp : pc + 1 = pc') (k : Gd q (some (L0, xs)) pc' ρ (vi (Int32.ofNat L0) :: st) s R cu su o) : Gd q (some (L0, xs)) pc ρ (vs :: st) s R cu su o := fun out e => by subst hp; exact Ev.slen rfl hd (k out e)
/-- calls: the callee computes f -/
theorem HX_len2 (s s' : Sg) (R : List AC) : (HX s R).length = (HX s' R).length := rfl
theorem G.callVi {j : MI} {f : Ro} {kf : Int32 → Sg → Ro} {idx i ci n : Nat} {T0 : u_T} {N0 : Nat} {As stk fs : List AV} {ty : FieldType} (hj : Ct j (vr i :: As) s R f) (hd : decode (mb q) pc = .ok (.invokevirtual idx, 3)) (hp : pc + 3 = pc') (hl : LM (my q).cls idx (my j)) (hm : MK j n) (hv : MV j) (hz : (mR j).cells = 0 ∧ (mR j).slots = 0) (hR : Rle j q) (ho : (HX s R)[i]? = some (ao ci fs)) (hcl : vwCl[ci]? = some ((my j).cls, T0, N0))
    (hs : stk = As.reverse ++ vr i :: st) (hn : As.length = n) (hst : decide (st.length ≤ 8) = true) (hc : cu ≤ (mR q).cells ∧ su ≤ (mR q).slots) (hr : mr j = some ty) (k : ∀ (v : Int32) (s' : Sg), Gd q X pc' ρ (vi v :: st) s' R cu su (kf v s')) : Gd q X pc ρ stk s R cu su (bnd f kf) := by
  intro out e
  subst hp
  rcases hf : f with _ | ⟨v, s'⟩
  · rw [hf] at e; cases e
  · rw [hf] at e
    refine Ev.callV (hj (v, s') hf) hd hl hm hv hR ho hcl hs hn (of_decide_eq_true hst) (by rw [hz.1, hz.2]; exact hc) (fun r h' hr => Or.inl (by rw [hr.2]; exact HX_len2 _ _ _)) ?_
    intro r h' hr'
    have e1 : r = (mr j).map (fun _ => vi v) := hr'.1
    have e2 : h' = HX s' R := hr'.2
    rw [hr] at e1
    subst e1; subst e2
    rw [hz.1, hz.2]
    exact k v s' out e
theorem G.callVv {j : MI} {f : Ro} {kf : Int32 → Sg → Ro} {idx i ci n : Nat} {T0 : u_T} {N0 : Nat} {As stk fs : List AV} (hj : Ct j (vr i :: As) s R f) (hd : decode (mb q) pc = .ok (.invokevirtual idx, 3)) (hp : pc + 3 = pc') (hl : LM (my q).cls idx (my j)) (hm : MK j n) (hv : MV j) (hz : (mR j).cells = 0 ∧ (mR j).slots = 0) (hR : Rle j q) (ho : (HX s R)[i]? = some (ao ci fs)) (hcl : vwCl[ci]? = some ((my j).cls, T0, N0))
    (hs : stk = As.reverse ++ vr i :: st) (hn : As.length = n) (hst : decide (st.length ≤ 8) = true) (hc : cu ≤ (mR q).cells ∧ su ≤ (mR q).slots) (hr : mr j = none) (k : ∀ (v : Int32) (s' : Sg), Gd q X pc' ρ (st) s' R cu su (kf v s')) : Gd q X pc ρ stk s R cu su (bnd f kf) := by
  intro out e
  subst hp
  rcases hf : f with _ | ⟨v, s'⟩
  · rw [hf] at e; cases e
  · rw [hf] at e
    refine Ev.callV (hj (v, s') hf) hd hl hm hv hR ho hcl hs hn (of_decide_eq_true hst) (by rw [hz.1, hz.2]; exact hc) (fun r h' hr => Or.inl (by rw [hr.2]; exact HX_len2 _ _ _)) ?_
    intro r h' hr'
    have e1 : r = (mr j).map (fun _ => vi v) := hr'.1
    have e2 : h' = HX s' R := hr'.2
    rw [hr] at e1
    subst e1; subst e2
    rw [hz.1, hz.2]
    exact k v s' out e
theorem G.callSi {j : MI} {f : Ro} {kf : Int32 → Sg → Ro} {idx n : Nat} {As stk : List AV} {ty : FieldType} (hj : Ct j As s R f) (hd : decode (mb q) pc = .ok (.invokestatic idx, 3)) (hp : pc + 3 = pc') (hl : LM (my q).cls idx (my j)) (hm : MK j n) (hv : Cond.static (my j) ∈ Wt) (hz : (mR j).cells = 0 ∧ (mR j).slots = 0) (hR : Rle j q)
    (hs : stk = As.reverse ++ st) (hn : As.length = n) (hst : decide (st.length ≤ 8) = true) (hc : cu ≤ (mR q).cells ∧ su ≤ (mR q).slots) (hr : mr j = some ty) (k : ∀ (v : Int32) (s' : Sg), Gd q X pc' ρ (vi v :: st) s' R cu su (kf v s')) : Gd q X pc ρ stk s R cu su (bnd f kf) := by
  intro out e
  subst hp
  rcases hf : f with _ | ⟨v, s'⟩
  · rw [hf] at e; cases e
  · rw [hf] at e
    refine Ev.callS (hj (v, s') hf) hd hl hm hv hR hs hn (of_decide_eq_true hst) (by rw [hz.1, hz.2]; exact hc) (fun r h' hr => Or.inl (by rw [hr.2]; exact HX_len2 _ _ _)) ?_
    intro r h' hr'
    have e1 : r = (mr j).map (fun _ => vi v) := hr'.1
    have e2 : h' = HX s' R := hr'.2
    rw [hr] at e1
    subst e1; subst e2
    rw [hz.1, hz.2]
    exact k v s' out e
theorem G.callSv {j : MI} {f : Ro} {kf : Int32 → Sg → Ro} {idx n : Nat} {As stk : List AV} (hj : Ct j As s R f) (hd : decode (mb q) pc = .ok (.invokestatic idx, 3)) (hp : pc + 3 = pc') (hl : LM (my q).cls idx (my j)) (hm : MK j n) (hv : Cond.static (my j) ∈ Wt) (hz : (mR j).cells = 0 ∧ (mR j).slots = 0) (hR : Rle j q)
    (hs : stk = As.reverse ++ st) (hn : As.length = n) (hst : decide (st.length ≤ 8) = true) (hc : cu ≤ (mR q).cells ∧ su ≤ (mR q).slots) (hr : mr j = none) (k : ∀ (v : Int32) (s' : Sg), Gd q X pc' ρ (st) s' R cu su (kf v s')) : Gd q X pc ρ stk s R cu su (bnd f kf) := by
  intro out e
  subst hp
  rcases hf : f with _ | ⟨v, s'⟩
  · rw [hf] at e; cases e
  · rw [hf] at e
    refine Ev.callS (hj (v, s') hf) hd hl hm hv hR hs hn (of_decide_eq_true hst) (by rw [hz.1, hz.2]; exact hc) (fun r h' hr => Or.inl (by rw [hr.2]; exact HX_len2 _ _ _)) ?_
    intro r h' hr'
    have e1 : r = (mr j).map (fun _ => vi v) := hr'.1
    have e2 : h' = HX s' R := hr'.2
    rw [hr] at e1
    subst e1; subst e2
    rw [hz.1, hz.2]
    exact k v s' out e
/-- System.arraycopy -/
theorem G.acopy {idx i0 i1 n0 n1 : Nat} {f g : Nat → Int32} {sp dp n : Int32} {s' : Sg} (hd : decode (mb q) pc = .ok (.invokestatic idx, 3)) (hp : pc + 3 = pc') (hw1 : Cond.methodLink (my q).cls idx arraycopyName ∈ Wt) (hw2 : Cond.native arraycopyName ∈ Wt) (hw3 : Cond.static arraycopyName ∈ Wt) (hw4 : Cond.initialized "java/lang/System" ∈ Wt)
    (h0 : (HX s R)[i0]? = some (ai .int n0 f)) (h1 : (HX s R)[i1]? = some (ai .int n1 g)) (hfr : 1 ≤ (mR q).frames) (hlo : decide (st.length + (nativeFrameWords "java/lang/System" "arraycopy" 5 + 11) ≤ (mR q).locals) = true)
    (hh : (HX s R).set i1 (ai .int n1 (va_cpy f g (ix sp) (ix dp) (ix n))) = HX s' R) (k : Gd q X pc' ρ st s' R cu su o) : Gd q X pc ρ (vi n :: vi dp :: vr i1 :: vi sp :: vr i0 :: st) s R cu su (if (¬ sp < 0 ∧ ¬ dp < 0 ∧ ¬ n < 0) ∧ ix sp + ix n ≤ n0 ∧ ix dp + ix n ≤ n1 then o else none) := G.grd (fun g out e => by subst hp; exact Ev.acopy hd hw1 hw2 hw3 hw4 h0 h1 g.1.1 g.1.2.1 g.1.2.2 g.2.1 g.2.2 hfr (of_decide_eq_true hlo) hh (k out e))
/-- the end -/
theorem G.iret {x : Int32} (hd : decode (mb q) pc = .ok (.ireturn, 1)) (hn : mr q = some .int) (hc : cu ≤ (mR q).cells ∧ su ≤ (mR q).slots) : Gd q X pc ρ [vi x] s R cu su (some (x, s)) := fun out e => by
  cases e
  exact Ev.ireturn hd ⟨_, hn, rfl⟩ hc.1 hc.2 ⟨by rw [hn]; rfl, rfl⟩
theorem G.zret {x : Int32} (hd : decode (mb q) pc = .ok (.ireturn, 1)) (hn : mr q = some .boolean) (hc : cu ≤ (mR q).cells ∧ su ≤ (mR q).slots) : Gd q X pc ρ [vi x] s R cu su (if isb x = true then some (x, s) else none) := G.grd (fun g out e => by
  cases e
  exact Ev.ireturn hd ⟨_, hn, isb_narrow g⟩ hc.1 hc.2 ⟨by rw [hn]; rfl, rfl⟩)
theorem G.zretK {x : Int32} (g : isb x = true) (hd : decode (mb q) pc = .ok (.ireturn, 1)) (hn : mr q = some .boolean) (hc : cu ≤ (mR q).cells ∧ su ≤ (mR q).slots) : Gd q X pc ρ [vi x] s R cu su (some (x, s)) := fun out e => by
  cases e
  exact Ev.ireturn hd ⟨_, hn, isb_narrow g⟩ hc.1 hc.2 ⟨by rw [hn]; rfl, rfl⟩
theorem G.vret (hd : decode (mb q) pc = .ok (.return_, 1)) (hn : mr q = none) (hc : cu ≤ (mR q).cells ∧ su ≤ (mR q).slots) : Gd q X pc ρ [] s R cu su (some (0, s)) := fun out e => by
  cases e
  exact Ev.vreturn hd hn hc.1 hc.2 ⟨by rw [hn]; rfl, rfl⟩
end GR
end
section
theorem wti {w : Cond} (i : Nat) (h : tables_1[i]? = some w) (g : goodWord w = true) : w ∈ Wt := List.mem_filter.mpr ⟨List.mem_append_right _ (List.mem_of_getElem? h), g⟩
theorem wt1 {w : Cond} (i : Nat) (h : tables_1_1[i]? = some w) (g : goodWord w = true) : w ∈ Wt := List.mem_filter.mpr ⟨List.mem_append_right _ (List.mem_append_left _ (List.mem_of_getElem? h)), g⟩
theorem wt2 {w : Cond} (i : Nat) (h : tables_1_2[i]? = some w) (g : goodWord w = true) : w ∈ Wt := List.mem_filter.mpr ⟨List.mem_append_right _ (List.mem_append_right _ (List.mem_append_left _ (List.mem_of_getElem? h))), g⟩
theorem wt3 {w : Cond} (i : Nat) (h : tables_1_3[i]? = some w) (g : goodWord w = true) : w ∈ Wt := List.mem_filter.mpr ⟨List.mem_append_right _ (List.mem_append_right _ (List.mem_append_right _ (List.mem_append_left _ (List.mem_of_getElem? h)))), g⟩
theorem wt4 {w : Cond} (i : Nat) (h : tables_1_4[i]? = some w) (g : goodWord w = true) : w ∈ Wt := List.mem_filter.mpr ⟨List.mem_append_right _ (List.mem_append_right _ (List.mem_append_right _ (List.mem_append_right _ (List.mem_of_getElem? h)))), g⟩
theorem wn1 {w : Cond} (i : Nat) (h : tables_1_1[i]? = some w) (g : isNest w = true) : w ∈ Wn := List.mem_filter.mpr ⟨List.mem_append_left _ (List.mem_of_getElem? h), g⟩
theorem wn2 {w : Cond} (i : Nat) (h : tables_1_2[i]? = some w) (g : isNest w = true) : w ∈ Wn := List.mem_filter.mpr ⟨List.mem_append_right _ (List.mem_append_left _ (List.mem_of_getElem? h)), g⟩
theorem wn3 {w : Cond} (i : Nat) (h : tables_1_3[i]? = some w) (g : isNest w = true) : w ∈ Wn := List.mem_filter.mpr ⟨List.mem_append_right _ (List.mem_append_right _ (List.mem_append_left _ (List.mem_of_getElem? h))), g⟩
theorem wts {w : Cond} (i : Nat) (h : (k2_sels lw_privs)[i]? = some w) (g : goodWord w = true) : w ∈ Wt := List.mem_filter.mpr ⟨List.mem_append_left _ (List.mem_of_getElem? h), g⟩
theorem memAll {big ws : List Cond} (ps : List Nat) (hp : ws = ps.filterMap (fun i => big[i]?)) : ∀ w ∈ ws, w ∈ big := by
  intro w hw
  rw [hp] at hw
  obtain ⟨i, -, hi⟩ := List.mem_filterMap.mp hw
  exact List.mem_of_getElem? hi
theorem wta {ws : List Cond} (ps : List Nat) (hp : ws = ps.filterMap (fun i => tables_1[i]?)) (g : ws.all goodWord = true) : ∀ w ∈ ws, w ∈ Wt := fun w hw => List.mem_filter.mpr ⟨List.mem_append_right _ (memAll ps hp w hw), List.all_eq_true.mp g w hw⟩
theorem uw_FU : ∀ w ∈ u_ws R_FU F_FU 11, w ∈ Wt := wta [255, 257, 259, 261, 263, 265, 267, 269, 271, 273, 275] (by decide +kernel) (by decide +kernel)
theorem uw_Packs : ∀ w ∈ u_ws R_Packs F_Packs 4, w ∈ Wt := wta [36, 38, 40, 42] (by decide +kernel) (by decide +kernel)
theorem uw_Feats : ∀ w ∈ u_ws R_Feats F_Feats 5, w ∈ Wt := wta [65, 67, 69, 71, 73] (by decide +kernel) (by decide +kernel)
theorem uw_Users : ∀ w ∈ u_ws R_Users F_Users 8, w ∈ Wt := wta [104, 106, 108, 110, 112, 114, 116, 118] (by decide +kernel) (by decide +kernel)
theorem uw_Turns : ∀ w ∈ u_ws R_Turns F_Turns 5, w ∈ Wt := wta [142, 144, 146, 148, 150] (by decide +kernel) (by decide +kernel)
theorem uw_Snap : ∀ w ∈ u_ws R_Snap F_Snap 12, w ∈ Wt := wta [187, 189, 191, 193, 195, 197, 199, 201, 203, 205, 207, 209] (by decide +kernel) (by decide +kernel)
theorem uw_Clo : ∀ w ∈ u_ws R_Clo F_Clo 4, w ∈ Wt := wta [222, 224, 226, 228] (by decide +kernel) (by decide +kernel)
theorem uw_Reas : ∀ w ∈ u_ws R_Reas F_Reas 2, w ∈ Wt := wta [239, 241] (by decide +kernel) (by decide +kernel)
theorem uw_Mod : ∀ w ∈ u_ws R_Mod F_Mod 46, w ∈ Wt := wta [575, 577, 579, 581, 583, 585, 587, 589, 591, 593, 595, 597, 599, 601, 603, 605, 607, 609, 611, 613, 615, 617, 619, 621, 623, 625, 627, 629, 631, 633, 635, 637, 639, 641, 643, 645, 647, 649, 651, 653, 655, 657, 659, 661, 663, 665] (by decide +kernel) (by decide +kernel)
abbrev b_Packs_init : ByteArray := prog_4_method_1_code
def y_Packs_init : MethodName := ⟨"FeatureUnions$Packs", "<init>", "()V"⟩
def q_Packs_init : MI := (y_Packs_init, b_Packs_init, 1, none, { frames := 1, cells := 1, slots := 10, locals := 12 })
abbrev b_Feats_init : ByteArray := prog_3_method_1_code
def y_Feats_init : MethodName := ⟨"FeatureUnions$Features", "<init>", "()V"⟩
def q_Feats_init : MI := (y_Feats_init, b_Feats_init, 1, none, { frames := 1, cells := 4, slots := 240, locals := 12 })
abbrev b_Users_init : ByteArray := prog_8_method_1_code
def y_Users_init : MethodName := ⟨"FeatureUnions$Users", "<init>", "()V"⟩
def q_Users_init : MI := (y_Users_init, b_Users_init, 1, none, { frames := 1, cells := 7, slots := 280, locals := 12 })
abbrev b_Turns_init : ByteArray := prog_7_method_1_code
def y_Turns_init : MethodName := ⟨"FeatureUnions$Turns", "<init>", "()V"⟩
def q_Turns_init : MI := (y_Turns_init, b_Turns_init, 1, none, { frames := 1, cells := 4, slots := 240, locals := 12 })
abbrev b_Snap_init : ByteArray := prog_6_method_1_code
def y_Snap_init : MethodName := ⟨"FeatureUnions$Snapshot", "<init>", "(LFeatureUnions$Packs;LFeatureUnions$Features;LFeatureUnions$Users;LFeatureUnions$Turns;)V"⟩
def q_Snap_init : MI := (y_Snap_init, b_Snap_init, 5, none, { frames := 1, cells := 1, slots := 40, locals := 12 })
abbrev b_Clo_init : ByteArray := prog_2_method_1_code
def y_Clo_init : MethodName := ⟨"FeatureUnions$Closure", "<init>", "(LFeatureUnions$Snapshot;)V"⟩
def q_Clo_init : MI := (y_Clo_init, b_Clo_init, 2, none, { frames := 1, cells := 2, slots := 440, locals := 12 })
abbrev b_Reas_init : ByteArray := prog_5_method_1_code
def y_Reas_init : MethodName := ⟨"FeatureUnions$Reasons", "<init>", "(LFeatureUnions$Snapshot;LFeatureUnions$Closure;)V"⟩
def q_Reas_init : MI := (y_Reas_init, b_Reas_init, 3, none, { frames := 1, cells := 0, slots := 0, locals := 12 })
abbrev b_FU_init : ByteArray := prog_1_method_1_code
def y_FU_init : MethodName := ⟨"FeatureUnions", "<init>", "()V"⟩
def q_FU_init : MI := (y_FU_init, b_FU_init, 1, none, { frames := 2, cells := 30, slots := 1854, locals := 36 })
abbrev b_Packs_add : ByteArray := prog_4_method_3_code
def y_Packs_add : MethodName := ⟨"FeatureUnions$Packs", "add", "(Z)I"⟩
def q_Packs_add : MI := (y_Packs_add, b_Packs_add, 2, some .int, { frames := 0, cells := 0, slots := 0, locals := 0 })
abbrev b_FU_pack : ByteArray := prog_1_method_2_code
def y_FU_pack : MethodName := ⟨"FeatureUnions", "pack", "(Z)I"⟩
def q_FU_pack : MI := (y_FU_pack, b_FU_pack, 2, some .int, { frames := 1, cells := 0, slots := 0, locals := 21 })
abbrev b_FU_within : ByteArray := prog_1_method_18_code
def y_FU_within : MethodName := ⟨"FeatureUnions", "within", "(II)Z"⟩
def q_FU_within : MI := (y_FU_within, b_FU_within, 2, some .boolean, { frames := 0, cells := 0, slots := 0, locals := 0 })
abbrev b_Packs_has : ByteArray := prog_4_method_2_code
def y_Packs_has : MethodName := ⟨"FeatureUnions$Packs", "has", "(I)Z"⟩
def q_Packs_has : MI := (y_Packs_has, b_Packs_has, 2, some .boolean, { frames := 1, cells := 0, slots := 0, locals := 21 })
abbrev b_Feats_find : ByteArray := prog_3_method_4_code
def y_Feats_find : MethodName := ⟨"FeatureUnions$Features", "find", "(II)I"⟩
def q_Feats_find : MI := (y_Feats_find, b_Feats_find, 4, some .int, { frames := 0, cells := 0, slots := 0, locals := 0 })
abbrev b_Feats_countOf : ByteArray := prog_3_method_5_code
def y_Feats_countOf : MethodName := ⟨"FeatureUnions$Features", "countOf", "(I)I"⟩
def q_Feats_countOf : MI := (y_Feats_countOf, b_Feats_countOf, 4, some .int, { frames := 0, cells := 0, slots := 0, locals := 0 })
abbrev b_Feats_add : ByteArray := prog_3_method_3_code
def y_Feats_add : MethodName := ⟨"FeatureUnions$Features", "add", "(IIZI)I"⟩
def q_Feats_add : MI := (y_Feats_add, b_Feats_add, 5, some .int, { frames := 0, cells := 0, slots := 0, locals := 0 })
abbrev b_FU_feature : ByteArray := prog_1_method_3_code
def y_FU_feature : MethodName := ⟨"FeatureUnions", "feature", "(IIZI)I"⟩
def q_FU_feature : MI := (y_FU_feature, b_FU_feature, 5, some .int, { frames := 2, cells := 0, slots := 0, locals := 42 })
abbrev b_FU_bit : ByteArray := prog_1_method_19_code
def y_FU_bit : MethodName := ⟨"FeatureUnions", "bit", "(II)Z"⟩
def q_FU_bit : MI := (y_FU_bit, b_FU_bit, 2, some .boolean, { frames := 0, cells := 0, slots := 0, locals := 0 })
abbrev b_Packs_makeRoot : ByteArray := prog_4_method_4_code
def y_Packs_makeRoot : MethodName := ⟨"FeatureUnions$Packs", "makeRoot", "(IZ)V"⟩
def q_Packs_makeRoot : MI := (y_Packs_makeRoot, b_Packs_makeRoot, 3, none, { frames := 0, cells := 0, slots := 0, locals := 0 })
abbrev b_FU_root : ByteArray := prog_1_method_4_code
def y_FU_root : MethodName := ⟨"FeatureUnions", "root", "(IZ)Z"⟩
def q_FU_root : MI := (y_FU_root, b_FU_root, 3, some .boolean, { frames := 2, cells := 0, slots := 0, locals := 42 })
abbrev b_Users_add : ByteArray := prog_8_method_3_code
def y_Users_add : MethodName := ⟨"FeatureUnions$Users", "add", "(IIZZZI)I"⟩
def q_Users_add : MI := (y_Users_add, b_Users_add, 7, some .int, { frames := 0, cells := 0, slots := 0, locals := 0 })
abbrev b_FU_user : ByteArray := prog_1_method_5_code
def y_FU_user : MethodName := ⟨"FeatureUnions", "user", "(IIZZZI)I"⟩
def q_FU_user : MI := (y_FU_user, b_FU_user, 7, some .int, { frames := 2, cells := 0, slots := 0, locals := 42 })
abbrev b_Users_has : ByteArray := prog_8_method_2_code
def y_Users_has : MethodName := ⟨"FeatureUnions$Users", "has", "(I)Z"⟩
def q_Users_has : MI := (y_Users_has, b_Users_has, 2, some .boolean, { frames := 1, cells := 0, slots := 0, locals := 21 })
abbrev b_FU_asks : ByteArray := prog_1_method_6_code
def y_FU_asks : MethodName := ⟨"FeatureUnions", "asks", "(II)I"⟩
def q_FU_asks : MI := (y_FU_asks, b_FU_asks, 3, some .int, { frames := 2, cells := 0, slots := 0, locals := 42 })
abbrev b_Feats_has : ByteArray := prog_3_method_2_code
def y_Feats_has : MethodName := ⟨"FeatureUnions$Features", "has", "(I)Z"⟩
def q_Feats_has : MI := (y_Feats_has, b_Feats_has, 2, some .boolean, { frames := 1, cells := 0, slots := 0, locals := 21 })
abbrev b_Turns_add : ByteArray := prog_7_method_2_code
def y_Turns_add : MethodName := ⟨"FeatureUnions$Turns", "add", "(IIII)I"⟩
def q_Turns_add : MI := (y_Turns_add, b_Turns_add, 5, some .int, { frames := 0, cells := 0, slots := 0, locals := 0 })
abbrev b_FU_turn : ByteArray := prog_1_method_7_code
def y_FU_turn : MethodName := ⟨"FeatureUnions", "turn", "(IIII)I"⟩
def q_FU_turn : MI := (y_FU_turn, b_FU_turn, 8, some .int, { frames := 2, cells := 0, slots := 0, locals := 42 })
abbrev b_Snap_take : ByteArray := prog_6_method_2_code
def y_Snap_take : MethodName := ⟨"FeatureUnions$Snapshot", "take", "(I)V"⟩
def q_Snap_take : MI := (y_Snap_take, b_Snap_take, 2, none, { frames := 1, cells := 0, slots := 0, locals := 64 })
abbrev b_Clo_bring : ByteArray := prog_2_method_16_code
def y_Clo_bring : MethodName := ⟨"FeatureUnions$Closure", "bring", "(II)V"⟩
def q_Clo_bring : MI := (y_Clo_bring, b_Clo_bring, 3, none, { frames := 0, cells := 0, slots := 0, locals := 0 })
abbrev b_Clo_bringThere : ByteArray := prog_2_method_13_code
def y_Clo_bringThere : MethodName := ⟨"FeatureUnions$Closure", "bringThere", "(III)V"⟩
def q_Clo_bringThere : MI := (y_Clo_bringThere, b_Clo_bringThere, 4, none, { frames := 1, cells := 0, slots := 0, locals := 22 })
abbrev b_Snap_counts : ByteArray := prog_6_method_3_code
def y_Snap_counts : MethodName := ⟨"FeatureUnions$Snapshot", "counts", "(I)Z"⟩
def q_Snap_counts : MI := (y_Snap_counts, b_Snap_counts, 2, some .boolean, { frames := 1, cells := 0, slots := 0, locals := 21 })
abbrev b_Clo_bringLive : ByteArray := prog_2_method_14_code
def y_Clo_bringLive : MethodName := ⟨"FeatureUnions$Closure", "bringLive", "(III)V"⟩
def q_Clo_bringLive : MI := (y_Clo_bringLive, b_Clo_bringLive, 4, none, { frames := 2, cells := 0, slots := 0, locals := 42 })
abbrev b_Snap_isDefaultOfRoot : ByteArray := prog_6_method_6_code
def y_Snap_isDefaultOfRoot : MethodName := ⟨"FeatureUnions$Snapshot", "isDefaultOfRoot", "(I)Z"⟩
def q_Snap_isDefaultOfRoot : MI := (y_Snap_isDefaultOfRoot, b_Snap_isDefaultOfRoot, 2, some .boolean, { frames := 1, cells := 0, slots := 0, locals := 21 })
abbrev b_Clo_onStage : ByteArray := prog_2_method_4_code
def y_Clo_onStage : MethodName := ⟨"FeatureUnions$Closure", "onStage", "(II)I"⟩
def q_Clo_onStage : MI := (y_Clo_onStage, b_Clo_onStage, 3, some .int, { frames := 0, cells := 0, slots := 0, locals := 0 })
abbrev b_Clo_isBy : ByteArray := prog_2_method_12_code
def y_Clo_isBy : MethodName := ⟨"FeatureUnions$Closure", "isBy", "(II)Z"⟩
def q_Clo_isBy : MI := (y_Clo_isBy, b_Clo_isBy, 2, some .boolean, { frames := 0, cells := 0, slots := 0, locals := 0 })
abbrev b_Clo_bringOn : ByteArray := prog_2_method_15_code
def y_Clo_bringOn : MethodName := ⟨"FeatureUnions$Closure", "bringOn", "(III)V"⟩
def q_Clo_bringOn : MI := (y_Clo_bringOn, b_Clo_bringOn, 4, none, { frames := 1, cells := 0, slots := 0, locals := 22 })
abbrev b_Clo_followThere : ByteArray := prog_2_method_8_code
def y_Clo_followThere : MethodName := ⟨"FeatureUnions$Closure", "followThere", "(III)V"⟩
def q_Clo_followThere : MI := (y_Clo_followThere, b_Clo_followThere, 7, none, { frames := 3, cells := 0, slots := 0, locals := 65 })
abbrev b_Users_farSide : ByteArray := prog_8_method_4_code
def y_Users_farSide : MethodName := ⟨"FeatureUnions$Users", "farSide", "(II)I"⟩
def q_Users_farSide : MI := (y_Users_farSide, b_Users_farSide, 3, some .int, { frames := 0, cells := 0, slots := 0, locals := 0 })
abbrev b_Snap_isAskedBy : ByteArray := prog_6_method_4_code
def y_Snap_isAskedBy : MethodName := ⟨"FeatureUnions$Snapshot", "isAskedBy", "(II)Z"⟩
def q_Snap_isAskedBy : MI := (y_Snap_isAskedBy, b_Snap_isAskedBy, 3, some .boolean, { frames := 1, cells := 0, slots := 0, locals := 21 })
abbrev b_Snap_isDefaultFor : ByteArray := prog_6_method_5_code
def y_Snap_isDefaultFor : MethodName := ⟨"FeatureUnions$Snapshot", "isDefaultFor", "(II)Z"⟩
def q_Snap_isDefaultFor : MI := (y_Snap_isDefaultFor, b_Snap_isDefaultFor, 3, some .boolean, { frames := 0, cells := 0, slots := 0, locals := 0 })
abbrev b_Clo_followLive : ByteArray := prog_2_method_9_code
def y_Clo_followLive : MethodName := ⟨"FeatureUnions$Closure", "followLive", "(III)V"⟩
def q_Clo_followLive : MI := (y_Clo_followLive, b_Clo_followLive, 6, none, { frames := 2, cells := 0, slots := 0, locals := 45 })
abbrev b_Clo_thereStage : ByteArray := prog_2_method_2_code
def y_Clo_thereStage : MethodName := ⟨"FeatureUnions$Closure", "thereStage", "(II)I"⟩
def q_Clo_thereStage : MI := (y_Clo_thereStage, b_Clo_thereStage, 3, some .int, { frames := 0, cells := 0, slots := 0, locals := 0 })
abbrev b_Clo_liveStage : ByteArray := prog_2_method_3_code
def y_Clo_liveStage : MethodName := ⟨"FeatureUnions$Closure", "liveStage", "(II)I"⟩
def q_Clo_liveStage : MI := (y_Clo_liveStage, b_Clo_liveStage, 3, some .int, { frames := 0, cells := 0, slots := 0, locals := 0 })
abbrev b_Clo_followTurn : ByteArray := prog_2_method_11_code
def y_Clo_followTurn : MethodName := ⟨"FeatureUnions$Closure", "followTurn", "(III)V"⟩
def q_Clo_followTurn : MI := (y_Clo_followTurn, b_Clo_followTurn, 7, none, { frames := 3, cells := 0, slots := 0, locals := 65 })
abbrev b_Clo_followOn : ByteArray := prog_2_method_10_code
def y_Clo_followOn : MethodName := ⟨"FeatureUnions$Closure", "followOn", "(III)V"⟩
def q_Clo_followOn : MI := (y_Clo_followOn, b_Clo_followOn, 6, none, { frames := 4, cells := 0, slots := 0, locals := 91 })
abbrev b_Clo_follow : ByteArray := prog_2_method_7_code
def y_Clo_follow : MethodName := ⟨"FeatureUnions$Closure", "follow", "(I)V"⟩
def q_Clo_follow : MI := (y_Clo_follow, b_Clo_follow, 4, none, { frames := 5, cells := 0, slots := 0, locals := 116 })
abbrev b_Clo_close : ByteArray := prog_2_method_6_code
def y_Clo_close : MethodName := ⟨"FeatureUnions$Closure", "close", "()V"⟩
def q_Clo_close : MI := (y_Clo_close, b_Clo_close, 2, none, { frames := 6, cells := 0, slots := 0, locals := 139 })
abbrev b_Clo_greatestStage : ByteArray := prog_2_method_5_code
def y_Clo_greatestStage : MethodName := ⟨"FeatureUnions$Closure", "greatestStage", "()I"⟩
def q_Clo_greatestStage : MI := (y_Clo_greatestStage, b_Clo_greatestStage, 1, some .int, { frames := 0, cells := 0, slots := 0, locals := 0 })
abbrev b_FU_run : ByteArray := prog_1_method_8_code
def y_FU_run : MethodName := ⟨"FeatureUnions", "run", "(I)I"⟩
def q_FU_run : MI := (y_FU_run, b_FU_run, 2, some .int, { frames := 7, cells := 0, slots := 0, locals := 160 })
abbrev b_FU_there : ByteArray := prog_1_method_9_code
def y_FU_there : MethodName := ⟨"FeatureUnions", "there", "(II)I"⟩
def q_FU_there : MI := (y_FU_there, b_FU_there, 3, some .int, { frames := 2, cells := 0, slots := 0, locals := 42 })
abbrev b_FU_live : ByteArray := prog_1_method_10_code
def y_FU_live : MethodName := ⟨"FeatureUnions", "live", "(II)I"⟩
def q_FU_live : MI := (y_FU_live, b_FU_live, 3, some .int, { frames := 2, cells := 0, slots := 0, locals := 42 })
abbrev b_FU_on : ByteArray := prog_1_method_11_code
def y_FU_on : MethodName := ⟨"FeatureUnions", "on", "(II)I"⟩
def q_FU_on : MI := (y_FU_on, b_FU_on, 3, some .int, { frames := 2, cells := 0, slots := 0, locals := 42 })
abbrev b_Reas_isByRoot : ByteArray := prog_5_method_5_code
def y_Reas_isByRoot : MethodName := ⟨"FeatureUnions$Reasons", "isByRoot", "(III)Z"⟩
def q_Reas_isByRoot : MI := (y_Reas_isByRoot, b_Reas_isByRoot, 4, some .boolean, { frames := 2, cells := 0, slots := 0, locals := 42 })
abbrev b_Reas_isByUser : ByteArray := prog_5_method_6_code
def y_Reas_isByUser : MethodName := ⟨"FeatureUnions$Reasons", "isByUser", "(IIII)Z"⟩
def q_Reas_isByUser : MI := (y_Reas_isByUser, b_Reas_isByUser, 7, some .boolean, { frames := 2, cells := 0, slots := 0, locals := 43 })
abbrev b_Reas_isByTurn : ByteArray := prog_5_method_7_code
def y_Reas_isByTurn : MethodName := ⟨"FeatureUnions$Reasons", "isByTurn", "(IIII)Z"⟩
def q_Reas_isByTurn : MI := (y_Reas_isByTurn, b_Reas_isByTurn, 9, some .boolean, { frames := 2, cells := 0, slots := 0, locals := 42 })
abbrev b_Reas_isByOtherSide : ByteArray := prog_5_method_8_code
def y_Reas_isByOtherSide : MethodName := ⟨"FeatureUnions$Reasons", "isByOtherSide", "(III)Z"⟩
def q_Reas_isByOtherSide : MI := (y_Reas_isByOtherSide, b_Reas_isByOtherSide, 5, some .boolean, { frames := 1, cells := 0, slots := 0, locals := 22 })
abbrev b_Reas_holds : ByteArray := prog_5_method_4_code
def y_Reas_holds : MethodName := ⟨"FeatureUnions$Reasons", "holds", "(III)Z"⟩
def q_Reas_holds : MI := (y_Reas_holds, b_Reas_holds, 6, some .boolean, { frames := 3, cells := 0, slots := 0, locals := 70 })
abbrev b_Reas_countOf : ByteArray := prog_5_method_2_code
def y_Reas_countOf : MethodName := ⟨"FeatureUnions$Reasons", "countOf", "(II)I"⟩
def q_Reas_countOf : MI := (y_Reas_countOf, b_Reas_countOf, 5, some .int, { frames := 4, cells := 0, slots := 0, locals := 95 })
abbrev b_FU_reasons : ByteArray := prog_1_method_12_code
def y_FU_reasons : MethodName := ⟨"FeatureUnions", "reasons", "(II)I"⟩
def q_FU_reasons : MI := (y_FU_reasons, b_FU_reasons, 3, some .int, { frames := 5, cells := 0, slots := 0, locals := 119 })
abbrev b_Reas_find : ByteArray := prog_5_method_3_code
def y_Reas_find : MethodName := ⟨"FeatureUnions$Reasons", "find", "(III)I"⟩
def q_Reas_find : MI := (y_Reas_find, b_Reas_find, 6, some .int, { frames := 4, cells := 0, slots := 0, locals := 95 })
abbrev b_FU_reason : ByteArray := prog_1_method_13_code
def y_FU_reason : MethodName := ⟨"FeatureUnions", "reason", "(IIII)I"⟩
def q_FU_reason : MI := (y_FU_reason, b_FU_reason, 6, some .int, { frames := 5, cells := 0, slots := 0, locals := 120 })
abbrev b_Feats_exclude : ByteArray := prog_3_method_6_code
def y_Feats_exclude : MethodName := ⟨"FeatureUnions$Features", "exclude", "(II)Z"⟩
def q_Feats_exclude : MI := (y_Feats_exclude, b_Feats_exclude, 3, some .boolean, { frames := 0, cells := 0, slots := 0, locals := 0 })
abbrev b_FU_clash : ByteArray := prog_1_method_14_code
def y_FU_clash : MethodName := ⟨"FeatureUnions", "clash", "(II)I"⟩
def q_FU_clash : MI := (y_FU_clash, b_FU_clash, 7, some .int, { frames := 1, cells := 0, slots := 0, locals := 22 })
abbrev b_FU_noteLeavers : ByteArray := prog_1_method_17_code
def y_FU_noteLeavers : MethodName := ⟨"FeatureUnions", "noteLeavers", "()V"⟩
def q_FU_noteLeavers : MI := (y_FU_noteLeavers, b_FU_noteLeavers, 3, none, { frames := 1, cells := 0, slots := 0, locals := 22 })
abbrev b_FU_without : ByteArray := prog_1_method_15_code
def y_FU_without : MethodName := ⟨"FeatureUnions", "without", "(II)I"⟩
def q_FU_without : MI := (y_FU_without, b_FU_without, 4, some .int, { frames := 7, cells := 0, slots := 0, locals := 160 })
abbrev b_FU_left : ByteArray := prog_1_method_16_code
def y_FU_left : MethodName := ⟨"FeatureUnions", "left", "(I)I"⟩
def q_FU_left : MI := (y_FU_left, b_FU_left, 2, some .int, { frames := 1, cells := 0, slots := 0, locals := 21 })
abbrev b_Mod_init : ByteArray := prog_10_method_1_code
def y_Mod_init : MethodName := ⟨"FeatureUnionsModel", "<init>", "()V"⟩
def q_Mod_init : MI := (y_Mod_init, b_Mod_init, 1, none, { frames := 1, cells := 29, slots := 2920, locals := 12 })
abbrev b_Mod_isPack : ByteArray := prog_10_method_3_code
def y_Mod_isPack : MethodName := ⟨"FeatureUnionsModel", "isPack", "(I)Z"⟩
def q_Mod_isPack : MI := (y_Mod_isPack, b_Mod_isPack, 2, some .boolean, { frames := 0, cells := 0, slots := 0, locals := 0 })
abbrev b_Mod_isUser : ByteArray := prog_10_method_4_code
def y_Mod_isUser : MethodName := ⟨"FeatureUnionsModel", "isUser", "(I)Z"⟩
def q_Mod_isUser : MI := (y_Mod_isUser, b_Mod_isUser, 2, some .boolean, { frames := 0, cells := 0, slots := 0, locals := 0 })
abbrev b_Mod_isFeature : ByteArray := prog_10_method_5_code
def y_Mod_isFeature : MethodName := ⟨"FeatureUnionsModel", "isFeature", "(I)Z"⟩
def q_Mod_isFeature : MI := (y_Mod_isFeature, b_Mod_isFeature, 2, some .boolean, { frames := 0, cells := 0, slots := 0, locals := 0 })
abbrev b_Mod_pack : ByteArray := prog_10_method_6_code
def y_Mod_pack : MethodName := ⟨"FeatureUnionsModel", "pack", "(Z)I"⟩
def q_Mod_pack : MI := (y_Mod_pack, b_Mod_pack, 2, some .int, { frames := 0, cells := 0, slots := 0, locals := 0 })
abbrev b_Mod_named : ByteArray := prog_10_method_7_code
def y_Mod_named : MethodName := ⟨"FeatureUnionsModel", "named", "(II)I"⟩
def q_Mod_named : MI := (y_Mod_named, b_Mod_named, 5, some .int, { frames := 0, cells := 0, slots := 0, locals := 0 })
abbrev b_Mod_many : ByteArray := prog_10_method_8_code
def y_Mod_many : MethodName := ⟨"FeatureUnionsModel", "many", "(I)I"⟩
def q_Mod_many : MI := (y_Mod_many, b_Mod_many, 4, some .int, { frames := 0, cells := 0, slots := 0, locals := 0 })
abbrev b_Mod_feature : ByteArray := prog_10_method_9_code
def y_Mod_feature : MethodName := ⟨"FeatureUnionsModel", "feature", "(IIZI)I"⟩
def q_Mod_feature : MI := (y_Mod_feature, b_Mod_feature, 5, some .int, { frames := 1, cells := 0, slots := 0, locals := 24 })
abbrev b_Mod_root : ByteArray := prog_10_method_10_code
def y_Mod_root : MethodName := ⟨"FeatureUnionsModel", "root", "(IZ)Z"⟩
def q_Mod_root : MI := (y_Mod_root, b_Mod_root, 3, some .boolean, { frames := 1, cells := 0, slots := 0, locals := 21 })
abbrev b_Mod_user : ByteArray := prog_10_method_11_code
def y_Mod_user : MethodName := ⟨"FeatureUnionsModel", "user", "(IIZZZI)I"⟩
def q_Mod_user : MI := (y_Mod_user, b_Mod_user, 7, some .int, { frames := 1, cells := 0, slots := 0, locals := 21 })
abbrev b_Mod_asking : ByteArray := prog_10_method_12_code
def y_Mod_asking : MethodName := ⟨"FeatureUnionsModel", "asking", "(III)I"⟩
def q_Mod_asking : MI := (y_Mod_asking, b_Mod_asking, 6, some .int, { frames := 0, cells := 0, slots := 0, locals := 0 })
abbrev b_Mod_asks : ByteArray := prog_10_method_13_code
def y_Mod_asks : MethodName := ⟨"FeatureUnionsModel", "asks", "(II)I"⟩
def q_Mod_asks : MI := (y_Mod_asks, b_Mod_asks, 4, some .int, { frames := 1, cells := 0, slots := 0, locals := 25 })
abbrev b_Mod_turn : ByteArray := prog_10_method_14_code
def y_Mod_turn : MethodName := ⟨"FeatureUnionsModel", "turn", "(IIII)I"⟩
def q_Mod_turn : MI := (y_Mod_turn, b_Mod_turn, 7, some .int, { frames := 1, cells := 0, slots := 0, locals := 24 })
abbrev b_Mod_isFor : ByteArray := prog_10_method_15_code
def y_Mod_isFor : MethodName := ⟨"FeatureUnionsModel", "isFor", "(I)Z"⟩
def q_Mod_isFor : MI := (y_Mod_isFor, b_Mod_isFor, 2, some .boolean, { frames := 0, cells := 0, slots := 0, locals := 0 })
abbrev b_Mod_farSide : ByteArray := prog_10_method_16_code
def y_Mod_farSide : MethodName := ⟨"FeatureUnionsModel", "farSide", "(II)I"⟩
def q_Mod_farSide : MI := (y_Mod_farSide, b_Mod_farSide, 3, some .int, { frames := 0, cells := 0, slots := 0, locals := 0 })
abbrev b_Mod_came : ByteArray := prog_10_method_17_code
def y_Mod_came : MethodName := ⟨"FeatureUnionsModel", "came", "(II)Z"⟩
def q_Mod_came : MI := (y_Mod_came, b_Mod_came, 2, some .boolean, { frames := 0, cells := 0, slots := 0, locals := 0 })
abbrev b_Mod_comesThere : ByteArray := prog_10_method_18_code
def y_Mod_comesThere : MethodName := ⟨"FeatureUnionsModel", "comesThere", "(III)Z"⟩
def q_Mod_comesThere : MI := (y_Mod_comesThere, b_Mod_comesThere, 7, some .boolean, { frames := 1, cells := 0, slots := 0, locals := 22 })
abbrev b_Mod_comesLive : ByteArray := prog_10_method_19_code
def y_Mod_comesLive : MethodName := ⟨"FeatureUnionsModel", "comesLive", "(III)Z"⟩
def q_Mod_comesLive : MI := (y_Mod_comesLive, b_Mod_comesLive, 6, some .boolean, { frames := 1, cells := 0, slots := 0, locals := 21 })
abbrev b_Mod_tell : ByteArray := prog_10_method_20_code
def y_Mod_tell : MethodName := ⟨"FeatureUnionsModel", "tell", "(II)V"⟩
def q_Mod_tell : MI := (y_Mod_tell, b_Mod_tell, 3, none, { frames := 0, cells := 0, slots := 0, locals := 0 })
abbrev b_Mod_turnsOn : ByteArray := prog_10_method_22_code
def y_Mod_turnsOn : MethodName := ⟨"FeatureUnionsModel", "turnsOn", "(IIIIII)Z"⟩
def q_Mod_turnsOn : MI := (y_Mod_turnsOn, b_Mod_turnsOn, 8, some .boolean, { frames := 1, cells := 0, slots := 0, locals := 22 })
abbrev b_Mod_gather : ByteArray := prog_10_method_21_code
def y_Mod_gather : MethodName := ⟨"FeatureUnionsModel", "gather", "(III)V"⟩
def q_Mod_gather : MI := (y_Mod_gather, b_Mod_gather, 8, none, { frames := 2, cells := 0, slots := 0, locals := 49 })
abbrev b_Mod_comesOn : ByteArray := prog_10_method_23_code
def y_Mod_comesOn : MethodName := ⟨"FeatureUnionsModel", "comesOn", "(III)Z"⟩
def q_Mod_comesOn : MI := (y_Mod_comesOn, b_Mod_comesOn, 4, some .boolean, { frames := 3, cells := 0, slots := 0, locals := 76 })
abbrev b_Mod_close : ByteArray := prog_10_method_24_code
def y_Mod_close : MethodName := ⟨"FeatureUnionsModel", "close", "()I"⟩
def q_Mod_close : MI := (y_Mod_close, b_Mod_close, 4, some .int, { frames := 4, cells := 0, slots := 0, locals := 99 })
abbrev b_Mod_run : ByteArray := prog_10_method_25_code
def y_Mod_run : MethodName := ⟨"FeatureUnionsModel", "run", "(I)I"⟩
def q_Mod_run : MI := (y_Mod_run, b_Mod_run, 4, some .int, { frames := 5, cells := 0, slots := 0, locals := 122 })
abbrev b_Mod_isSide : ByteArray := prog_10_method_26_code
def y_Mod_isSide : MethodName := ⟨"FeatureUnionsModel", "isSide", "(I)Z"⟩
def q_Mod_isSide : MI := (y_Mod_isSide, b_Mod_isSide, 1, some .boolean, { frames := 0, cells := 0, slots := 0, locals := 0 })
abbrev b_Mod_there : ByteArray := prog_10_method_27_code
def y_Mod_there : MethodName := ⟨"FeatureUnionsModel", "there", "(II)I"⟩
def q_Mod_there : MI := (y_Mod_there, b_Mod_there, 3, some .int, { frames := 1, cells := 0, slots := 0, locals := 20 })
abbrev b_Mod_live : ByteArray := prog_10_method_28_code
def y_Mod_live : MethodName := ⟨"FeatureUnionsModel", "live", "(II)I"⟩
def q_Mod_live : MI := (y_Mod_live, b_Mod_live, 3, some .int, { frames := 1, cells := 0, slots := 0, locals := 20 })
abbrev b_Mod_on : ByteArray := prog_10_method_29_code
def y_Mod_on : MethodName := ⟨"FeatureUnionsModel", "on", "(II)I"⟩
def q_Mod_on : MI := (y_Mod_on, b_Mod_on, 3, some .int, { frames := 1, cells := 0, slots := 0, locals := 20 })
abbrev b_Mod_reasoned : ByteArray := prog_10_method_30_code
def y_Mod_reasoned : MethodName := ⟨"FeatureUnionsModel", "reasoned", "(II)Z"⟩
def q_Mod_reasoned : MI := (y_Mod_reasoned, b_Mod_reasoned, 4, some .boolean, { frames := 3, cells := 0, slots := 0, locals := 76 })
abbrev b_Mod_reasons : ByteArray := prog_10_method_31_code
def y_Mod_reasons : MethodName := ⟨"FeatureUnionsModel", "reasons", "(II)I"⟩
def q_Mod_reasons : MI := (y_Mod_reasons, b_Mod_reasons, 3, some .int, { frames := 4, cells := 0, slots := 0, locals := 99 })
abbrev b_Mod_reason : ByteArray := prog_10_method_32_code
def y_Mod_reason : MethodName := ⟨"FeatureUnionsModel", "reason", "(IIII)I"⟩
def q_Mod_reason : MI := (y_Mod_reason, b_Mod_reason, 5, some .int, { frames := 4, cells := 0, slots := 0, locals := 99 })
abbrev b_Mod_clash : ByteArray := prog_10_method_33_code
def y_Mod_clash : MethodName := ⟨"FeatureUnionsModel", "clash", "(II)I"⟩
def q_Mod_clash : MI := (y_Mod_clash, b_Mod_clash, 7, some .int, { frames := 0, cells := 0, slots := 0, locals := 0 })
abbrev b_Mod_without : ByteArray := prog_10_method_34_code
def y_Mod_without : MethodName := ⟨"FeatureUnionsModel", "without", "(II)I"⟩
def q_Mod_without : MI := (y_Mod_without, b_Mod_without, 6, some .int, { frames := 5, cells := 0, slots := 0, locals := 122 })
abbrev b_Mod_left : ByteArray := prog_10_method_35_code
def y_Mod_left : MethodName := ⟨"FeatureUnionsModel", "left", "(I)I"⟩
def q_Mod_left : MI := (y_Mod_left, b_Mod_left, 2, some .int, { frames := 0, cells := 0, slots := 0, locals := 0 })
abbrev b_Law_law : ByteArray := code
def y_Law_law : MethodName := ⟨"FeatureUnionsLaw", "law", "([I)Z"⟩
def q_Law_law : MI := (y_Law_law, b_Law_law, 4, some .boolean, room_1)
end
section
theorem mk_Packs_init : MK q_Packs_init 0 := ⟨wt1 23 rfl rfl, wt1 2 rfl rfl, by decide +kernel, by decide +kernel, by decide +kernel⟩
theorem in_Packs_init : Cond.instanceMethod (my q_Packs_init) ∈ Wt := wt1 22 rfl rfl
theorem mk_Feats_init : MK q_Feats_init 0 := ⟨wt1 50 rfl rfl, wt1 3 rfl rfl, by decide +kernel, by decide +kernel, by decide +kernel⟩
theorem in_Feats_init : Cond.instanceMethod (my q_Feats_init) ∈ Wt := wt1 49 rfl rfl
theorem mk_Users_init : MK q_Users_init 0 := ⟨wt1 81 rfl rfl, wt1 4 rfl rfl, by decide +kernel, by decide +kernel, by decide +kernel⟩
theorem in_Users_init : Cond.instanceMethod (my q_Users_init) ∈ Wt := wt1 80 rfl rfl
theorem mk_Turns_init : MK q_Turns_init 0 := ⟨wt1 125 rfl rfl, wt1 5 rfl rfl, by decide +kernel, by decide +kernel, by decide +kernel⟩
theorem in_Turns_init : Cond.instanceMethod (my q_Turns_init) ∈ Wt := wt1 124 rfl rfl
theorem mk_Snap_init : MK q_Snap_init 4 := ⟨wt1 157 rfl rfl, wt1 6 rfl rfl, by decide +kernel, by decide +kernel, by decide +kernel⟩
theorem in_Snap_init : Cond.instanceMethod (my q_Snap_init) ∈ Wt := wt1 156 rfl rfl
theorem mk_Clo_init : MK q_Clo_init 1 := ⟨wt1 216 rfl rfl, wt1 7 rfl rfl, by decide +kernel, by decide +kernel, by decide +kernel⟩
theorem in_Clo_init : Cond.instanceMethod (my q_Clo_init) ∈ Wt := wt1 215 rfl rfl
theorem mk_Reas_init : MK q_Reas_init 2 := ⟨wt1 235 rfl rfl, wt1 8 rfl rfl, by decide +kernel, by decide +kernel, by decide +kernel⟩
theorem in_Reas_init : Cond.instanceMethod (my q_Reas_init) ∈ Wt := wt1 234 rfl rfl
theorem mk_FU_init : MK q_FU_init 0 := ⟨wt1 15 rfl rfl, wt1 1 rfl rfl, by decide +kernel, by decide +kernel, by decide +kernel⟩
theorem in_FU_init : Cond.instanceMethod (my q_FU_init) ∈ Wt := wt1 14 rfl rfl
theorem mk_Packs_add : MK q_Packs_add 1 := ⟨wt2 45 rfl rfl, wt1 2 rfl rfl, by decide +kernel, by decide +kernel, by decide +kernel⟩
theorem mv_Packs_add : MV q_Packs_add := ⟨wt2 43 rfl rfl, wt2 44 rfl rfl⟩
theorem mk_FU_pack : MK q_FU_pack 1 := ⟨wt2 41 rfl rfl, wt1 1 rfl rfl, by decide +kernel, by decide +kernel, by decide +kernel⟩
theorem mv_FU_pack : MV q_FU_pack := ⟨wt2 39 rfl rfl, wt2 40 rfl rfl⟩
theorem mk_FU_within : MK q_FU_within 2 := ⟨wt2 56 rfl rfl, wt1 1 rfl rfl, by decide +kernel, by decide +kernel, by decide +kernel⟩
theorem sx_FU_within : Cond.static (my q_FU_within) ∈ Wt := wt2 55 rfl rfl
theorem mk_Packs_has : MK q_Packs_has 1 := ⟨wt2 53 rfl rfl, wt1 2 rfl rfl, by decide +kernel, by decide +kernel, by decide +kernel⟩
theorem mv_Packs_has : MV q_Packs_has := ⟨wt2 51 rfl rfl, wt2 52 rfl rfl⟩
theorem mk_Feats_find : MK q_Feats_find 2 := ⟨wt2 61 rfl rfl, wt1 3 rfl rfl, by decide +kernel, by decide +kernel, by decide +kernel⟩
theorem mv_Feats_find : MV q_Feats_find := ⟨wt2 59 rfl rfl, wt2 60 rfl rfl⟩
theorem mk_Feats_countOf : MK q_Feats_countOf 1 := ⟨wt2 65 rfl rfl, wt1 3 rfl rfl, by decide +kernel, by decide +kernel, by decide +kernel⟩
theorem mv_Feats_countOf : MV q_Feats_countOf := ⟨wt2 63 rfl rfl, wt2 64 rfl rfl⟩
theorem mk_Feats_add : MK q_Feats_add 4 := ⟨wt2 69 rfl rfl, wt1 3 rfl rfl, by decide +kernel, by decide +kernel, by decide +kernel⟩
theorem mv_Feats_add : MV q_Feats_add := ⟨wt2 67 rfl rfl, wt2 68 rfl rfl⟩
theorem mk_FU_feature : MK q_FU_feature 4 := ⟨wt2 49 rfl rfl, wt1 1 rfl rfl, by decide +kernel, by decide +kernel, by decide +kernel⟩
theorem mv_FU_feature : MV q_FU_feature := ⟨wt2 47 rfl rfl, wt2 48 rfl rfl⟩
theorem mk_FU_bit : MK q_FU_bit 2 := ⟨wt2 76 rfl rfl, wt1 1 rfl rfl, by decide +kernel, by decide +kernel, by decide +kernel⟩
theorem sx_FU_bit : Cond.static (my q_FU_bit) ∈ Wt := wt2 75 rfl rfl
theorem mk_Packs_makeRoot : MK q_Packs_makeRoot 2 := ⟨wt2 80 rfl rfl, wt1 2 rfl rfl, by decide +kernel, by decide +kernel, by decide +kernel⟩
theorem mv_Packs_makeRoot : MV q_Packs_makeRoot := ⟨wt2 78 rfl rfl, wt2 79 rfl rfl⟩
theorem mk_FU_root : MK q_FU_root 2 := ⟨wt2 73 rfl rfl, wt1 1 rfl rfl, by decide +kernel, by decide +kernel, by decide +kernel⟩
theorem mv_FU_root : MV q_FU_root := ⟨wt2 71 rfl rfl, wt2 72 rfl rfl⟩
theorem mk_Users_add : MK q_Users_add 6 := ⟨wt2 88 rfl rfl, wt1 4 rfl rfl, by decide +kernel, by decide +kernel, by decide +kernel⟩
theorem mv_Users_add : MV q_Users_add := ⟨wt2 86 rfl rfl, wt2 87 rfl rfl⟩
theorem mk_FU_user : MK q_FU_user 6 := ⟨wt2 84 rfl rfl, wt1 1 rfl rfl, by decide +kernel, by decide +kernel, by decide +kernel⟩
theorem mv_FU_user : MV q_FU_user := ⟨wt2 82 rfl rfl, wt2 83 rfl rfl⟩
theorem mk_Users_has : MK q_Users_has 1 := ⟨wt2 96 rfl rfl, wt1 4 rfl rfl, by decide +kernel, by decide +kernel, by decide +kernel⟩
theorem mv_Users_has : MV q_Users_has := ⟨wt2 94 rfl rfl, wt2 95 rfl rfl⟩
theorem mk_FU_asks : MK q_FU_asks 2 := ⟨wt2 92 rfl rfl, wt1 1 rfl rfl, by decide +kernel, by decide +kernel, by decide +kernel⟩
theorem mv_FU_asks : MV q_FU_asks := ⟨wt2 90 rfl rfl, wt2 91 rfl rfl⟩
theorem mk_Feats_has : MK q_Feats_has 1 := ⟨wt2 105 rfl rfl, wt1 3 rfl rfl, by decide +kernel, by decide +kernel, by decide +kernel⟩
theorem mv_Feats_has : MV q_Feats_has := ⟨wt2 103 rfl rfl, wt2 104 rfl rfl⟩
theorem mk_Turns_add : MK q_Turns_add 4 := ⟨wt2 110 rfl rfl, wt1 5 rfl rfl, by decide +kernel, by decide +kernel, by decide +kernel⟩
theorem mv_Turns_add : MV q_Turns_add := ⟨wt2 108 rfl rfl, wt2 109 rfl rfl⟩
theorem mk_FU_turn : MK q_FU_turn 4 := ⟨wt2 101 rfl rfl, wt1 1 rfl rfl, by decide +kernel, by decide +kernel, by decide +kernel⟩
theorem mv_FU_turn : MV q_FU_turn := ⟨wt2 99 rfl rfl, wt2 100 rfl rfl⟩
theorem mk_Snap_take : MK q_Snap_take 1 := ⟨wt2 118 rfl rfl, wt1 6 rfl rfl, by decide +kernel, by decide +kernel, by decide +kernel⟩
theorem mv_Snap_take : MV q_Snap_take := ⟨wt2 116 rfl rfl, wt2 117 rfl rfl⟩
theorem mk_Clo_bring : MK q_Clo_bring 2 := ⟨wt2 134 rfl rfl, wt1 7 rfl rfl, by decide +kernel, by decide +kernel, by decide +kernel⟩
theorem mv_Clo_bring : MV q_Clo_bring := ⟨wt2 133 rfl rfl, wts 1 rfl rfl⟩
theorem mk_Clo_bringThere : MK q_Clo_bringThere 3 := ⟨wt2 130 rfl rfl, wt1 7 rfl rfl, by decide +kernel, by decide +kernel, by decide +kernel⟩
theorem mv_Clo_bringThere : MV q_Clo_bringThere := ⟨wt2 129 rfl rfl, wts 0 rfl rfl⟩
theorem mk_Snap_counts : MK q_Snap_counts 1 := ⟨wt2 150 rfl rfl, wt1 6 rfl rfl, by decide +kernel, by decide +kernel, by decide +kernel⟩
theorem mv_Snap_counts : MV q_Snap_counts := ⟨wt2 148 rfl rfl, wt2 149 rfl rfl⟩
theorem mk_Clo_bringLive : MK q_Clo_bringLive 3 := ⟨wt2 146 rfl rfl, wt1 7 rfl rfl, by decide +kernel, by decide +kernel, by decide +kernel⟩
theorem mv_Clo_bringLive : MV q_Clo_bringLive := ⟨wt2 145 rfl rfl, wts 4 rfl rfl⟩
theorem mk_Snap_isDefaultOfRoot : MK q_Snap_isDefaultOfRoot 1 := ⟨wt2 155 rfl rfl, wt1 6 rfl rfl, by decide +kernel, by decide +kernel, by decide +kernel⟩
theorem mv_Snap_isDefaultOfRoot : MV q_Snap_isDefaultOfRoot := ⟨wt2 153 rfl rfl, wt2 154 rfl rfl⟩
theorem mk_Clo_onStage : MK q_Clo_onStage 2 := ⟨wt2 159 rfl rfl, wt1 7 rfl rfl, by decide +kernel, by decide +kernel, by decide +kernel⟩
theorem mv_Clo_onStage : MV q_Clo_onStage := ⟨wt2 157 rfl rfl, wt2 158 rfl rfl⟩
theorem mk_Clo_isBy : MK q_Clo_isBy 2 := ⟨wt2 162 rfl rfl, wt1 7 rfl rfl, by decide +kernel, by decide +kernel, by decide +kernel⟩
theorem sx_Clo_isBy : Cond.static (my q_Clo_isBy) ∈ Wt := wt2 161 rfl rfl
theorem mk_Clo_bringOn : MK q_Clo_bringOn 3 := ⟨wt2 166 rfl rfl, wt1 7 rfl rfl, by decide +kernel, by decide +kernel, by decide +kernel⟩
theorem mv_Clo_bringOn : MV q_Clo_bringOn := ⟨wt2 165 rfl rfl, wts 5 rfl rfl⟩
theorem mk_Clo_followThere : MK q_Clo_followThere 3 := ⟨wt2 142 rfl rfl, wt1 7 rfl rfl, by decide +kernel, by decide +kernel, by decide +kernel⟩
theorem mv_Clo_followThere : MV q_Clo_followThere := ⟨wt2 141 rfl rfl, wts 3 rfl rfl⟩
theorem mk_Users_farSide : MK q_Users_farSide 2 := ⟨wt2 174 rfl rfl, wt1 4 rfl rfl, by decide +kernel, by decide +kernel, by decide +kernel⟩
theorem mv_Users_farSide : MV q_Users_farSide := ⟨wt2 172 rfl rfl, wt2 173 rfl rfl⟩
theorem mk_Snap_isAskedBy : MK q_Snap_isAskedBy 2 := ⟨wt2 178 rfl rfl, wt1 6 rfl rfl, by decide +kernel, by decide +kernel, by decide +kernel⟩
theorem mv_Snap_isAskedBy : MV q_Snap_isAskedBy := ⟨wt2 176 rfl rfl, wt2 177 rfl rfl⟩
theorem mk_Snap_isDefaultFor : MK q_Snap_isDefaultFor 2 := ⟨wt2 182 rfl rfl, wt1 6 rfl rfl, by decide +kernel, by decide +kernel, by decide +kernel⟩
theorem mv_Snap_isDefaultFor : MV q_Snap_isDefaultFor := ⟨wt2 180 rfl rfl, wt2 181 rfl rfl⟩
theorem mk_Clo_followLive : MK q_Clo_followLive 3 := ⟨wt2 170 rfl rfl, wt1 7 rfl rfl, by decide +kernel, by decide +kernel, by decide +kernel⟩
theorem mv_Clo_followLive : MV q_Clo_followLive := ⟨wt2 169 rfl rfl, wts 6 rfl rfl⟩
theorem mk_Clo_thereStage : MK q_Clo_thereStage 2 := ⟨wt2 190 rfl rfl, wt1 7 rfl rfl, by decide +kernel, by decide +kernel, by decide +kernel⟩
theorem mv_Clo_thereStage : MV q_Clo_thereStage := ⟨wt2 188 rfl rfl, wt2 189 rfl rfl⟩
theorem mk_Clo_liveStage : MK q_Clo_liveStage 2 := ⟨wt2 198 rfl rfl, wt1 7 rfl rfl, by decide +kernel, by decide +kernel, by decide +kernel⟩
theorem mv_Clo_liveStage : MV q_Clo_liveStage := ⟨wt2 196 rfl rfl, wt2 197 rfl rfl⟩
theorem mk_Clo_followTurn : MK q_Clo_followTurn 3 := ⟨wt2 194 rfl rfl, wt1 7 rfl rfl, by decide +kernel, by decide +kernel, by decide +kernel⟩
theorem mv_Clo_followTurn : MV q_Clo_followTurn := ⟨wt2 193 rfl rfl, wts 8 rfl rfl⟩
theorem mk_Clo_followOn : MK q_Clo_followOn 3 := ⟨wt2 186 rfl rfl, wt1 7 rfl rfl, by decide +kernel, by decide +kernel, by decide +kernel⟩
theorem mv_Clo_followOn : MV q_Clo_followOn := ⟨wt2 185 rfl rfl, wts 7 rfl rfl⟩
theorem mk_Clo_follow : MK q_Clo_follow 1 := ⟨wt2 138 rfl rfl, wt1 7 rfl rfl, by decide +kernel, by decide +kernel, by decide +kernel⟩
theorem mv_Clo_follow : MV q_Clo_follow := ⟨wt2 137 rfl rfl, wts 2 rfl rfl⟩
theorem mk_Clo_close : MK q_Clo_close 0 := ⟨wt2 125 rfl rfl, wt1 7 rfl rfl, by decide +kernel, by decide +kernel, by decide +kernel⟩
theorem mv_Clo_close : MV q_Clo_close := ⟨wt2 123 rfl rfl, wt2 124 rfl rfl⟩
theorem mk_Clo_greatestStage : MK q_Clo_greatestStage 0 := ⟨wt2 202 rfl rfl, wt1 7 rfl rfl, by decide +kernel, by decide +kernel, by decide +kernel⟩
theorem mv_Clo_greatestStage : MV q_Clo_greatestStage := ⟨wt2 200 rfl rfl, wt2 201 rfl rfl⟩
theorem mk_FU_run : MK q_FU_run 1 := ⟨wt2 114 rfl rfl, wt1 1 rfl rfl, by decide +kernel, by decide +kernel, by decide +kernel⟩
theorem mv_FU_run : MV q_FU_run := ⟨wt2 112 rfl rfl, wt2 113 rfl rfl⟩
theorem mk_FU_there : MK q_FU_there 2 := ⟨wt2 206 rfl rfl, wt1 1 rfl rfl, by decide +kernel, by decide +kernel, by decide +kernel⟩
theorem mv_FU_there : MV q_FU_there := ⟨wt2 204 rfl rfl, wt2 205 rfl rfl⟩
theorem mk_FU_live : MK q_FU_live 2 := ⟨wt2 211 rfl rfl, wt1 1 rfl rfl, by decide +kernel, by decide +kernel, by decide +kernel⟩
theorem mv_FU_live : MV q_FU_live := ⟨wt2 209 rfl rfl, wt2 210 rfl rfl⟩
theorem mk_FU_on : MK q_FU_on 2 := ⟨wt2 216 rfl rfl, wt1 1 rfl rfl, by decide +kernel, by decide +kernel, by decide +kernel⟩
theorem mv_FU_on : MV q_FU_on := ⟨wt2 214 rfl rfl, wt2 215 rfl rfl⟩
theorem mk_Reas_isByRoot : MK q_Reas_isByRoot 3 := ⟨wt2 234 rfl rfl, wt1 8 rfl rfl, by decide +kernel, by decide +kernel, by decide +kernel⟩
theorem mv_Reas_isByRoot : MV q_Reas_isByRoot := ⟨wt2 233 rfl rfl, wts 10 rfl rfl⟩
theorem mk_Reas_isByUser : MK q_Reas_isByUser 4 := ⟨wt3 0 rfl rfl, wt1 8 rfl rfl, by decide +kernel, by decide +kernel, by decide +kernel⟩
theorem mv_Reas_isByUser : MV q_Reas_isByUser := ⟨wt2 239 rfl rfl, wts 11 rfl rfl⟩
theorem mk_Reas_isByTurn : MK q_Reas_isByTurn 4 := ⟨wt3 8 rfl rfl, wt1 8 rfl rfl, by decide +kernel, by decide +kernel, by decide +kernel⟩
theorem mv_Reas_isByTurn : MV q_Reas_isByTurn := ⟨wt3 7 rfl rfl, wts 12 rfl rfl⟩
theorem mk_Reas_isByOtherSide : MK q_Reas_isByOtherSide 3 := ⟨wt3 14 rfl rfl, wt1 8 rfl rfl, by decide +kernel, by decide +kernel, by decide +kernel⟩
theorem mv_Reas_isByOtherSide : MV q_Reas_isByOtherSide := ⟨wt3 13 rfl rfl, wts 13 rfl rfl⟩
theorem mk_Reas_holds : MK q_Reas_holds 3 := ⟨wt2 230 rfl rfl, wt1 8 rfl rfl, by decide +kernel, by decide +kernel, by decide +kernel⟩
theorem mv_Reas_holds : MV q_Reas_holds := ⟨wt2 229 rfl rfl, wts 9 rfl rfl⟩
theorem mk_Reas_countOf : MK q_Reas_countOf 2 := ⟨wt2 226 rfl rfl, wt1 8 rfl rfl, by decide +kernel, by decide +kernel, by decide +kernel⟩
theorem mv_Reas_countOf : MV q_Reas_countOf := ⟨wt2 224 rfl rfl, wt2 225 rfl rfl⟩
theorem mk_FU_reasons : MK q_FU_reasons 2 := ⟨wt2 221 rfl rfl, wt1 1 rfl rfl, by decide +kernel, by decide +kernel, by decide +kernel⟩
theorem mv_FU_reasons : MV q_FU_reasons := ⟨wt2 219 rfl rfl, wt2 220 rfl rfl⟩
theorem mk_Reas_find : MK q_Reas_find 3 := ⟨wt3 22 rfl rfl, wt1 8 rfl rfl, by decide +kernel, by decide +kernel, by decide +kernel⟩
theorem mv_Reas_find : MV q_Reas_find := ⟨wt3 20 rfl rfl, wt3 21 rfl rfl⟩
theorem mk_FU_reason : MK q_FU_reason 4 := ⟨wt3 18 rfl rfl, wt1 1 rfl rfl, by decide +kernel, by decide +kernel, by decide +kernel⟩
theorem mv_FU_reason : MV q_FU_reason := ⟨wt3 16 rfl rfl, wt3 17 rfl rfl⟩
theorem mk_Feats_exclude : MK q_Feats_exclude 2 := ⟨wt3 30 rfl rfl, wt1 3 rfl rfl, by decide +kernel, by decide +kernel, by decide +kernel⟩
theorem mv_Feats_exclude : MV q_Feats_exclude := ⟨wt3 28 rfl rfl, wt3 29 rfl rfl⟩
theorem mk_FU_clash : MK q_FU_clash 2 := ⟨wt3 26 rfl rfl, wt1 1 rfl rfl, by decide +kernel, by decide +kernel, by decide +kernel⟩
theorem mv_FU_clash : MV q_FU_clash := ⟨wt3 24 rfl rfl, wt3 25 rfl rfl⟩
theorem mk_FU_noteLeavers : MK q_FU_noteLeavers 0 := ⟨wt3 38 rfl rfl, wt1 1 rfl rfl, by decide +kernel, by decide +kernel, by decide +kernel⟩
theorem mv_FU_noteLeavers : MV q_FU_noteLeavers := ⟨wt3 37 rfl rfl, wts 14 rfl rfl⟩
theorem mk_FU_without : MK q_FU_without 2 := ⟨wt3 34 rfl rfl, wt1 1 rfl rfl, by decide +kernel, by decide +kernel, by decide +kernel⟩
theorem mv_FU_without : MV q_FU_without := ⟨wt3 32 rfl rfl, wt3 33 rfl rfl⟩
theorem mk_FU_left : MK q_FU_left 1 := ⟨wt3 42 rfl rfl, wt1 1 rfl rfl, by decide +kernel, by decide +kernel, by decide +kernel⟩
theorem mv_FU_left : MV q_FU_left := ⟨wt3 40 rfl rfl, wt3 41 rfl rfl⟩
theorem mk_Mod_init : MK q_Mod_init 0 := ⟨wt3 47 rfl rfl, wt1 9 rfl rfl, by decide +kernel, by decide +kernel, by decide +kernel⟩
theorem in_Mod_init : Cond.instanceMethod (my q_Mod_init) ∈ Wt := wt3 46 rfl rfl
theorem mk_Mod_isPack : MK q_Mod_isPack 1 := ⟨wt3 199 rfl rfl, wt1 9 rfl rfl, by decide +kernel, by decide +kernel, by decide +kernel⟩
theorem mv_Mod_isPack : MV q_Mod_isPack := ⟨wt3 198 rfl rfl, wts 15 rfl rfl⟩
theorem mk_Mod_isUser : MK q_Mod_isUser 1 := ⟨wt3 223 rfl rfl, wt1 9 rfl rfl, by decide +kernel, by decide +kernel, by decide +kernel⟩
theorem mv_Mod_isUser : MV q_Mod_isUser := ⟨wt3 222 rfl rfl, wts 18 rfl rfl⟩
theorem mk_Mod_isFeature : MK q_Mod_isFeature 1 := ⟨wt3 235 rfl rfl, wt1 9 rfl rfl, by decide +kernel, by decide +kernel, by decide +kernel⟩
theorem mv_Mod_isFeature : MV q_Mod_isFeature := ⟨wt3 234 rfl rfl, wts 20 rfl rfl⟩
theorem mk_Mod_pack : MK q_Mod_pack 1 := ⟨wt3 191 rfl rfl, wt1 9 rfl rfl, by decide +kernel, by decide +kernel, by decide +kernel⟩
theorem mv_Mod_pack : MV q_Mod_pack := ⟨wt3 189 rfl rfl, wt3 190 rfl rfl⟩
theorem mk_Mod_named : MK q_Mod_named 2 := ⟨wt3 207 rfl rfl, wt1 9 rfl rfl, by decide +kernel, by decide +kernel, by decide +kernel⟩
theorem mv_Mod_named : MV q_Mod_named := ⟨wt3 206 rfl rfl, wts 17 rfl rfl⟩
theorem mk_Mod_many : MK q_Mod_many 1 := ⟨wt3 203 rfl rfl, wt1 9 rfl rfl, by decide +kernel, by decide +kernel, by decide +kernel⟩
theorem mv_Mod_many : MV q_Mod_many := ⟨wt3 202 rfl rfl, wts 16 rfl rfl⟩
theorem mk_Mod_feature : MK q_Mod_feature 4 := ⟨wt3 195 rfl rfl, wt1 9 rfl rfl, by decide +kernel, by decide +kernel, by decide +kernel⟩
theorem mv_Mod_feature : MV q_Mod_feature := ⟨wt3 193 rfl rfl, wt3 194 rfl rfl⟩
theorem mk_Mod_root : MK q_Mod_root 2 := ⟨wt3 211 rfl rfl, wt1 9 rfl rfl, by decide +kernel, by decide +kernel, by decide +kernel⟩
theorem mv_Mod_root : MV q_Mod_root := ⟨wt3 209 rfl rfl, wt3 210 rfl rfl⟩
theorem mk_Mod_user : MK q_Mod_user 6 := ⟨wt3 215 rfl rfl, wt1 9 rfl rfl, by decide +kernel, by decide +kernel, by decide +kernel⟩
theorem mv_Mod_user : MV q_Mod_user := ⟨wt3 213 rfl rfl, wt3 214 rfl rfl⟩
theorem mk_Mod_asking : MK q_Mod_asking 3 := ⟨wt3 227 rfl rfl, wt1 9 rfl rfl, by decide +kernel, by decide +kernel, by decide +kernel⟩
theorem mv_Mod_asking : MV q_Mod_asking := ⟨wt3 226 rfl rfl, wts 19 rfl rfl⟩
theorem mk_Mod_asks : MK q_Mod_asks 2 := ⟨wt3 219 rfl rfl, wt1 9 rfl rfl, by decide +kernel, by decide +kernel, by decide +kernel⟩
theorem mv_Mod_asks : MV q_Mod_asks := ⟨wt3 217 rfl rfl, wt3 218 rfl rfl⟩
theorem mk_Mod_turn : MK q_Mod_turn 4 := ⟨wt3 231 rfl rfl, wt1 9 rfl rfl, by decide +kernel, by decide +kernel, by decide +kernel⟩
theorem mv_Mod_turn : MV q_Mod_turn := ⟨wt3 229 rfl rfl, wt3 230 rfl rfl⟩
theorem mk_Mod_isFor : MK q_Mod_isFor 1 := ⟨wt4 11 rfl rfl, wt1 9 rfl rfl, by decide +kernel, by decide +kernel, by decide +kernel⟩
theorem mv_Mod_isFor : MV q_Mod_isFor := ⟨wt4 10 rfl rfl, wts 23 rfl rfl⟩
theorem mk_Mod_farSide : MK q_Mod_farSide 2 := ⟨wt4 15 rfl rfl, wt1 9 rfl rfl, by decide +kernel, by decide +kernel, by decide +kernel⟩
theorem mv_Mod_farSide : MV q_Mod_farSide := ⟨wt4 14 rfl rfl, wts 24 rfl rfl⟩
theorem mk_Mod_came : MK q_Mod_came 2 := ⟨wt4 18 rfl rfl, wt1 9 rfl rfl, by decide +kernel, by decide +kernel, by decide +kernel⟩
theorem sx_Mod_came : Cond.static (my q_Mod_came) ∈ Wt := wt4 17 rfl rfl
theorem mk_Mod_comesThere : MK q_Mod_comesThere 3 := ⟨wt4 7 rfl rfl, wt1 9 rfl rfl, by decide +kernel, by decide +kernel, by decide +kernel⟩
theorem mv_Mod_comesThere : MV q_Mod_comesThere := ⟨wt4 6 rfl rfl, wts 22 rfl rfl⟩
theorem mk_Mod_comesLive : MK q_Mod_comesLive 3 := ⟨wt4 22 rfl rfl, wt1 9 rfl rfl, by decide +kernel, by decide +kernel, by decide +kernel⟩
theorem mv_Mod_comesLive : MV q_Mod_comesLive := ⟨wt4 21 rfl rfl, wts 25 rfl rfl⟩
theorem mk_Mod_tell : MK q_Mod_tell 2 := ⟨wt4 34 rfl rfl, wt1 9 rfl rfl, by decide +kernel, by decide +kernel, by decide +kernel⟩
theorem mv_Mod_tell : MV q_Mod_tell := ⟨wt4 33 rfl rfl, wts 28 rfl rfl⟩
theorem mk_Mod_turnsOn : MK q_Mod_turnsOn 6 := ⟨wt4 38 rfl rfl, wt1 9 rfl rfl, by decide +kernel, by decide +kernel, by decide +kernel⟩
theorem mv_Mod_turnsOn : MV q_Mod_turnsOn := ⟨wt4 37 rfl rfl, wts 29 rfl rfl⟩
theorem mk_Mod_gather : MK q_Mod_gather 3 := ⟨wt4 30 rfl rfl, wt1 9 rfl rfl, by decide +kernel, by decide +kernel, by decide +kernel⟩
theorem mv_Mod_gather : MV q_Mod_gather := ⟨wt4 29 rfl rfl, wts 27 rfl rfl⟩
theorem mk_Mod_comesOn : MK q_Mod_comesOn 3 := ⟨wt4 26 rfl rfl, wt1 9 rfl rfl, by decide +kernel, by decide +kernel, by decide +kernel⟩
theorem mv_Mod_comesOn : MV q_Mod_comesOn := ⟨wt4 25 rfl rfl, wts 26 rfl rfl⟩
theorem mk_Mod_close : MK q_Mod_close 0 := ⟨wt4 3 rfl rfl, wt1 9 rfl rfl, by decide +kernel, by decide +kernel, by decide +kernel⟩
theorem mv_Mod_close : MV q_Mod_close := ⟨wt4 2 rfl rfl, wts 21 rfl rfl⟩
theorem mk_Mod_run : MK q_Mod_run 1 := ⟨wt3 239 rfl rfl, wt1 9 rfl rfl, by decide +kernel, by decide +kernel, by decide +kernel⟩
theorem mv_Mod_run : MV q_Mod_run := ⟨wt3 237 rfl rfl, wt3 238 rfl rfl⟩
theorem mk_Mod_isSide : MK q_Mod_isSide 1 := ⟨wt4 45 rfl rfl, wt1 9 rfl rfl, by decide +kernel, by decide +kernel, by decide +kernel⟩
theorem sx_Mod_isSide : Cond.static (my q_Mod_isSide) ∈ Wt := wt4 44 rfl rfl
theorem mk_Mod_there : MK q_Mod_there 2 := ⟨wt4 42 rfl rfl, wt1 9 rfl rfl, by decide +kernel, by decide +kernel, by decide +kernel⟩
theorem mv_Mod_there : MV q_Mod_there := ⟨wt4 40 rfl rfl, wt4 41 rfl rfl⟩
theorem mk_Mod_live : MK q_Mod_live 2 := ⟨wt4 49 rfl rfl, wt1 9 rfl rfl, by decide +kernel, by decide +kernel, by decide +kernel⟩
theorem mv_Mod_live : MV q_Mod_live := ⟨wt4 47 rfl rfl, wt4 48 rfl rfl⟩
theorem mk_Mod_on : MK q_Mod_on 2 := ⟨wt4 53 rfl rfl, wt1 9 rfl rfl, by decide +kernel, by decide +kernel, by decide +kernel⟩
theorem mv_Mod_on : MV q_Mod_on := ⟨wt4 51 rfl rfl, wt4 52 rfl rfl⟩
theorem mk_Mod_reasoned : MK q_Mod_reasoned 2 := ⟨wt4 61 rfl rfl, wt1 9 rfl rfl, by decide +kernel, by decide +kernel, by decide +kernel⟩
theorem mv_Mod_reasoned : MV q_Mod_reasoned := ⟨wt4 60 rfl rfl, wts 30 rfl rfl⟩
theorem mk_Mod_reasons : MK q_Mod_reasons 2 := ⟨wt4 57 rfl rfl, wt1 9 rfl rfl, by decide +kernel, by decide +kernel, by decide +kernel⟩
theorem mv_Mod_reasons : MV q_Mod_reasons := ⟨wt4 55 rfl rfl, wt4 56 rfl rfl⟩
theorem mk_Mod_reason : MK q_Mod_reason 4 := ⟨wt4 65 rfl rfl, wt1 9 rfl rfl, by decide +kernel, by decide +kernel, by decide +kernel⟩
theorem mv_Mod_reason : MV q_Mod_reason := ⟨wt4 63 rfl rfl, wt4 64 rfl rfl⟩
theorem mk_Mod_clash : MK q_Mod_clash 2 := ⟨wt4 69 rfl rfl, wt1 9 rfl rfl, by decide +kernel, by decide +kernel, by decide +kernel⟩
theorem mv_Mod_clash : MV q_Mod_clash := ⟨wt4 67 rfl rfl, wt4 68 rfl rfl⟩
theorem mk_Mod_without : MK q_Mod_without 2 := ⟨wt4 73 rfl rfl, wt1 9 rfl rfl, by decide +kernel, by decide +kernel, by decide +kernel⟩
theorem mv_Mod_without : MV q_Mod_without := ⟨wt4 71 rfl rfl, wt4 72 rfl rfl⟩
theorem mk_Mod_left : MK q_Mod_left 1 := ⟨wt4 77 rfl rfl, wt1 9 rfl rfl, by decide +kernel, by decide +kernel, by decide +kernel⟩
theorem mv_Mod_left : MV q_Mod_left := ⟨wt4 75 rfl rfl, wt4 76 rfl rfl⟩
end
section
theorem nd_FU (b : Nat) (ad : Nat → Nat) : ∀ j, j < 11 → defaultValue (ty_FU j) = vp_V (([vn, vn, vn, vn, vn, vn, vn, vn, vn, vi 0, vi 0] : List AV).map (cv b ad)) j
  | 0, _ => rfl
  | 1, _ => rfl
  | 2, _ => rfl
  | 3, _ => rfl
  | 4, _ => rfl
  | 5, _ => rfl
  | 6, _ => rfl
  | 7, _ => rfl
  | 8, _ => rfl
  | 9, _ => rfl
  | 10, _ => rfl
  | n + 11, h => absurd h (by omega)
theorem nd_Packs (b : Nat) (ad : Nat → Nat) : ∀ j, j < 4 → defaultValue (ty_Packs j) = vp_V (([vi 0, vi 0, vi 0, vn] : List AV).map (cv b ad)) j
  | 0, _ => rfl
  | 1, _ => rfl
  | 2, _ => rfl
  | 3, _ => rfl
  | n + 4, h => absurd h (by omega)
theorem nd_Feats (b : Nat) (ad : Nat → Nat) : ∀ j, j < 5 → defaultValue (ty_Feats j) = vp_V (([vi 0, vn, vn, vn, vn] : List AV).map (cv b ad)) j
  | 0, _ => rfl
  | 1, _ => rfl
  | 2, _ => rfl
  | 3, _ => rfl
  | 4, _ => rfl
  | n + 5, h => absurd h (by omega)
theorem nd_Users (b : Nat) (ad : Nat → Nat) : ∀ j, j < 8 → defaultValue (ty_Users j) = vp_V (([vi 0, vn, vn, vn, vn, vn, vn, vn] : List AV).map (cv b ad)) j
  | 0, _ => rfl
  | 1, _ => rfl
  | 2, _ => rfl
  | 3, _ => rfl
  | 4, _ => rfl
  | 5, _ => rfl
  | 6, _ => rfl
  | 7, _ => rfl
  | n + 8, h => absurd h (by omega)
theorem nd_Turns (b : Nat) (ad : Nat → Nat) : ∀ j, j < 5 → defaultValue (ty_Turns j) = vp_V (([vi 0, vn, vn, vn, vn] : List AV).map (cv b ad)) j
  | 0, _ => rfl
  | 1, _ => rfl
  | 2, _ => rfl
  | 3, _ => rfl
  | 4, _ => rfl
  | n + 5, h => absurd h (by omega)
theorem nd_Snap (b : Nat) (ad : Nat → Nat) : ∀ j, j < 12 → defaultValue (ty_Snap j) = vp_V (([vn, vn, vn, vn, vi 0, vi 0, vi 0, vi 0, vi 0, vi 0, vi 0, vn] : List AV).map (cv b ad)) j
  | 0, _ => rfl
  | 1, _ => rfl
  | 2, _ => rfl
  | 3, _ => rfl
  | 4, _ => rfl
  | 5, _ => rfl
  | 6, _ => rfl
  | 7, _ => rfl
  | 8, _ => rfl
  | 9, _ => rfl
  | 10, _ => rfl
  | 11, _ => rfl
  | n + 12, h => absurd h (by omega)
theorem nd_Clo (b : Nat) (ad : Nat → Nat) : ∀ j, j < 4 → defaultValue (ty_Clo j) = vp_V (([vn, vn, vn, vi 0] : List AV).map (cv b ad)) j
  | 0, _ => rfl
  | 1, _ => rfl
  | 2, _ => rfl
  | 3, _ => rfl
  | n + 4, h => absurd h (by omega)
theorem nd_Reas (b : Nat) (ad : Nat → Nat) : ∀ j, j < 2 → defaultValue (ty_Reas j) = vp_V (([vn, vn] : List AV).map (cv b ad)) j
  | 0, _ => rfl
  | 1, _ => rfl
  | n + 2, h => absurd h (by omega)
theorem nd_Mod (b : Nat) (ad : Nat → Nat) : ∀ j, j < 46 → defaultValue (ty_Mod j) = vp_V (([vi 0, vi 0, vi 0, vi 0, vi 0, vi 0, vn, vn, vn, vn, vn, vn, vn, vn, vn, vn, vn, vn, vn, vn, vn, vn, vn, vn, vn, vi 0, vi 0, vi 0, vi 0, vi 0, vi 0, vn, vi 0, vi 0, vn, vn, vn, vn, vn, vn, vi 0, vn, vi 0, vn, vn, vi 0] : List AV).map (cv b ad)) j
  | 0, _ => rfl
  | 1, _ => rfl
  | 2, _ => rfl
  | 3, _ => rfl
  | 4, _ => rfl
  | 5, _ => rfl
  | 6, _ => rfl
  | 7, _ => rfl
  | 8, _ => rfl
  | 9, _ => rfl
  | 10, _ => rfl
  | 11, _ => rfl
  | 12, _ => rfl
  | 13, _ => rfl
  | 14, _ => rfl
  | 15, _ => rfl
  | 16, _ => rfl
  | 17, _ => rfl
  | 18, _ => rfl
  | 19, _ => rfl
  | 20, _ => rfl
  | 21, _ => rfl
  | 22, _ => rfl
  | 23, _ => rfl
  | 24, _ => rfl
  | 25, _ => rfl
  | 26, _ => rfl
  | 27, _ => rfl
  | 28, _ => rfl
  | 29, _ => rfl
  | 30, _ => rfl
  | 31, _ => rfl
  | 32, _ => rfl
  | 33, _ => rfl
  | 34, _ => rfl
  | 35, _ => rfl
  | 36, _ => rfl
  | 37, _ => rfl
  | 38, _ => rfl
  | 39, _ => rfl
  | 40, _ => rfl
  | 41, _ => rfl
  | 42, _ => rfl
  | 43, _ => rfl
  | 44, _ => rfl
  | 45, _ => rfl
  | n + 46, h => absurd h (by omega)
theorem fg_FU_12 : FG "FeatureUnions" 12 0 0 := ⟨_, _, _, rfl, uw_FU, by decide, Or.inl (wt2 4 rfl rfl)⟩
theorem fg_FU_19 : FG "FeatureUnions" 19 0 1 := ⟨_, _, _, rfl, uw_FU, by decide, Or.inl (wt2 5 rfl rfl)⟩
theorem fg_FU_26 : FG "FeatureUnions" 26 0 2 := ⟨_, _, _, rfl, uw_FU, by decide, Or.inl (wt2 6 rfl rfl)⟩
theorem fg_FU_33 : FG "FeatureUnions" 33 0 3 := ⟨_, _, _, rfl, uw_FU, by decide, Or.inl (wt2 7 rfl rfl)⟩
theorem fg_FU_42 : FG "FeatureUnions" 42 0 4 := ⟨_, _, _, rfl, uw_FU, by decide, Or.inl (wt2 8 rfl rfl)⟩
theorem fg_FU_51 : FG "FeatureUnions" 51 0 5 := ⟨_, _, _, rfl, uw_FU, by decide, Or.inl (wt2 9 rfl rfl)⟩
theorem fg_FU_55 : FG "FeatureUnions" 55 0 6 := ⟨_, _, _, rfl, uw_FU, by decide, Or.inl (wt2 10 rfl rfl)⟩
theorem fg_FU_63 : FG "FeatureUnions" 63 0 7 := ⟨_, _, _, rfl, uw_FU, by decide, Or.inl (wt2 11 rfl rfl)⟩
theorem fg_FU_67 : FG "FeatureUnions" 67 0 8 := ⟨_, _, _, rfl, uw_FU, by decide, Or.inl (wt2 12 rfl rfl)⟩
theorem fg_FU_71 : FG "FeatureUnions" 71 0 9 := ⟨_, _, _, rfl, uw_FU, by decide, Or.inl (wt2 13 rfl rfl)⟩
theorem fp_FU_71 : FPo "FeatureUnions" 71 0 9 .int := ⟨_, _, _, ty_FU, rfl, uw_FU, to_FU, nm_FU, by decide, Or.inl (wt2 13 rfl rfl), rfl, rfl⟩
theorem fg_FU_75 : FG "FeatureUnions" 75 0 10 := ⟨_, _, _, rfl, uw_FU, by decide, Or.inl (wt2 14 rfl rfl)⟩
theorem fp_FU_75 : FPo "FeatureUnions" 75 0 10 .boolean := ⟨_, _, _, ty_FU, rfl, uw_FU, to_FU, nm_FU, by decide, Or.inl (wt2 14 rfl rfl), rfl, rfl⟩
theorem fg_FU_79 : FG "FeatureUnions" 79 1 0 := ⟨_, _, _, rfl, uw_Packs, by decide, Or.inl (wt1 26 rfl rfl)⟩
theorem fg_FU_102 : FG "FeatureUnions" 102 2 0 := ⟨_, _, _, rfl, uw_Feats, by decide, Or.inl (wt1 54 rfl rfl)⟩
theorem fg_FU_106 : FG "FeatureUnions" 106 1 1 := ⟨_, _, _, rfl, uw_Packs, by decide, Or.inl (wt1 30 rfl rfl)⟩
theorem fg_FU_116 : FG "FeatureUnions" 116 3 0 := ⟨_, _, _, rfl, uw_Users, by decide, Or.inl (wt1 85 rfl rfl)⟩
theorem fg_FU_121 : FG "FeatureUnions" 121 3 2 := ⟨_, _, _, rfl, uw_Users, by decide, Or.inl (wt1 91 rfl rfl)⟩
theorem fg_FU_124 : FG "FeatureUnions" 124 3 4 := ⟨_, _, _, rfl, uw_Users, by decide, Or.inl (wt1 97 rfl rfl)⟩
theorem fg_FU_128 : FG "FeatureUnions" 128 4 0 := ⟨_, _, _, rfl, uw_Turns, by decide, Or.inl (wt1 129 rfl rfl)⟩
theorem fg_FU_129 : FG "FeatureUnions" 129 2 1 := ⟨_, _, _, rfl, uw_Feats, by decide, Or.inl (wt1 58 rfl rfl)⟩
theorem fg_FU_132 : FG "FeatureUnions" 132 3 1 := ⟨_, _, _, rfl, uw_Users, by decide, Or.inl (wt1 87 rfl rfl)⟩
theorem fg_FU_135 : FG "FeatureUnions" 135 3 7 := ⟨_, _, _, rfl, uw_Users, by decide, Or.inl (wt1 102 rfl rfl)⟩
theorem fg_FU_173 : FG "FeatureUnions" 173 5 11 := ⟨_, _, _, rfl, uw_Snap, by decide, Or.inl (wt1 186 rfl rfl)⟩
theorem fg_Clo_9 : FG "FeatureUnions$Closure" 9 6 1 := ⟨_, _, _, rfl, uw_Clo, by decide, Or.inl (wt1 219 rfl rfl)⟩
theorem fg_Clo_15 : FG "FeatureUnions$Closure" 15 6 2 := ⟨_, _, _, rfl, uw_Clo, by decide, Or.inl (wt1 220 rfl rfl)⟩
theorem fg_Clo_18 : FG "FeatureUnions$Closure" 18 6 3 := ⟨_, _, _, rfl, uw_Clo, by decide, Or.inl (wt1 221 rfl rfl)⟩
theorem fp_Clo_18 : FPo "FeatureUnions$Closure" 18 6 3 .int := ⟨_, _, _, ty_Clo, rfl, uw_Clo, to_Clo, nm_Clo, by decide, Or.inl (wt1 221 rfl rfl), rfl, rfl⟩
theorem fg_Clo_22 : FG "FeatureUnions$Closure" 22 6 0 := ⟨_, _, _, rfl, uw_Clo, by decide, Or.inl (wt1 218 rfl rfl)⟩
theorem fg_Clo_26 : FG "FeatureUnions$Closure" 26 5 7 := ⟨_, _, _, rfl, uw_Snap, by decide, Or.inl (wt1 176 rfl rfl)⟩
theorem fg_Clo_31 : FG "FeatureUnions$Closure" 31 5 5 := ⟨_, _, _, rfl, uw_Snap, by decide, Or.inl (wt1 173 rfl rfl)⟩
theorem fg_Clo_55 : FG "FeatureUnions$Closure" 55 5 9 := ⟨_, _, _, rfl, uw_Snap, by decide, Or.inl (wt1 181 rfl rfl)⟩
theorem fg_Clo_58 : FG "FeatureUnions$Closure" 58 5 2 := ⟨_, _, _, rfl, uw_Snap, by decide, Or.inl (wt1 167 rfl rfl)⟩
theorem fg_Clo_62 : FG "FeatureUnions$Closure" 62 3 1 := ⟨_, _, _, rfl, uw_Users, by decide, Or.inl (wt1 88 rfl rfl)⟩
theorem fg_Clo_67 : FG "FeatureUnions$Closure" 67 3 7 := ⟨_, _, _, rfl, uw_Users, by decide, Or.inl (wt1 103 rfl rfl)⟩
theorem fg_Clo_74 : FG "FeatureUnions$Closure" 74 5 8 := ⟨_, _, _, rfl, uw_Snap, by decide, Or.inl (wt1 178 rfl rfl)⟩
theorem fg_Clo_77 : FG "FeatureUnions$Closure" 77 5 1 := ⟨_, _, _, rfl, uw_Snap, by decide, Or.inl (wt1 164 rfl rfl)⟩
theorem fg_Clo_81 : FG "FeatureUnions$Closure" 81 2 1 := ⟨_, _, _, rfl, uw_Feats, by decide, Or.inl (wt1 59 rfl rfl)⟩
theorem fg_Clo_90 : FG "FeatureUnions$Closure" 90 5 0 := ⟨_, _, _, rfl, uw_Snap, by decide, Or.inl (wt1 161 rfl rfl)⟩
theorem fg_Clo_94 : FG "FeatureUnions$Closure" 94 1 3 := ⟨_, _, _, rfl, uw_Packs, by decide, Or.inl (wt1 35 rfl rfl)⟩
theorem fg_Clo_112 : FG "FeatureUnions$Closure" 112 3 2 := ⟨_, _, _, rfl, uw_Users, by decide, Or.inl (wt1 92 rfl rfl)⟩
theorem fg_Clo_121 : FG "FeatureUnions$Closure" 121 5 10 := ⟨_, _, _, rfl, uw_Snap, by decide, Or.inl (wt1 184 rfl rfl)⟩
theorem fg_Clo_124 : FG "FeatureUnions$Closure" 124 5 3 := ⟨_, _, _, rfl, uw_Snap, by decide, Or.inl (wt1 170 rfl rfl)⟩
theorem fg_Clo_128 : FG "FeatureUnions$Closure" 128 4 2 := ⟨_, _, _, rfl, uw_Turns, by decide, Or.inl (wt1 135 rfl rfl)⟩
theorem fg_Clo_133 : FG "FeatureUnions$Closure" 133 4 3 := ⟨_, _, _, rfl, uw_Turns, by decide, Or.inl (wt1 138 rfl rfl)⟩
theorem fg_Clo_136 : FG "FeatureUnions$Closure" 136 4 1 := ⟨_, _, _, rfl, uw_Turns, by decide, Or.inl (wt1 132 rfl rfl)⟩
theorem fg_Clo_139 : FG "FeatureUnions$Closure" 139 4 4 := ⟨_, _, _, rfl, uw_Turns, by decide, Or.inl (wt1 141 rfl rfl)⟩
theorem fg_Feats_9 : FG "FeatureUnions$Features" 9 2 0 := ⟨_, _, _, rfl, uw_Feats, by decide, Or.inl (wt1 52 rfl rfl)⟩
theorem fp_Feats_9 : FPo "FeatureUnions$Features" 9 2 0 .int := ⟨_, _, _, ty_Feats, rfl, uw_Feats, to_Feats, nm_Feats, by decide, Or.inl (wt1 52 rfl rfl), rfl, rfl⟩
theorem fg_Feats_15 : FG "FeatureUnions$Features" 15 2 1 := ⟨_, _, _, rfl, uw_Feats, by decide, Or.inl (wt1 55 rfl rfl)⟩
theorem fg_Feats_19 : FG "FeatureUnions$Features" 19 2 2 := ⟨_, _, _, rfl, uw_Feats, by decide, Or.inl (wt1 60 rfl rfl)⟩
theorem fg_Feats_22 : FG "FeatureUnions$Features" 22 2 3 := ⟨_, _, _, rfl, uw_Feats, by decide, Or.inl (wt1 62 rfl rfl)⟩
theorem fg_Feats_25 : FG "FeatureUnions$Features" 25 2 4 := ⟨_, _, _, rfl, uw_Feats, by decide, Or.inl (wt1 63 rfl rfl)⟩
theorem fg_Packs_9 : FG "FeatureUnions$Packs" 9 1 0 := ⟨_, _, _, rfl, uw_Packs, by decide, Or.inl (wt1 25 rfl rfl)⟩
theorem fp_Packs_9 : FPo "FeatureUnions$Packs" 9 1 0 .int := ⟨_, _, _, ty_Packs, rfl, uw_Packs, to_Packs, nm_Packs, by decide, Or.inl (wt1 25 rfl rfl), rfl, rfl⟩
theorem fg_Packs_15 : FG "FeatureUnions$Packs" 15 1 1 := ⟨_, _, _, rfl, uw_Packs, by decide, Or.inl (wt1 28 rfl rfl)⟩
theorem fp_Packs_15 : FPo "FeatureUnions$Packs" 15 1 1 .int := ⟨_, _, _, ty_Packs, rfl, uw_Packs, to_Packs, nm_Packs, by decide, Or.inl (wt1 28 rfl rfl), rfl, rfl⟩
theorem fg_Packs_18 : FG "FeatureUnions$Packs" 18 1 2 := ⟨_, _, _, rfl, uw_Packs, by decide, Or.inl (wt1 31 rfl rfl)⟩
theorem fp_Packs_18 : FPo "FeatureUnions$Packs" 18 1 2 .int := ⟨_, _, _, ty_Packs, rfl, uw_Packs, to_Packs, nm_Packs, by decide, Or.inl (wt1 31 rfl rfl), rfl, rfl⟩
theorem fg_Packs_21 : FG "FeatureUnions$Packs" 21 1 3 := ⟨_, _, _, rfl, uw_Packs, by decide, Or.inl (wt1 33 rfl rfl)⟩
theorem fg_Reas_9 : FG "FeatureUnions$Reasons" 9 7 0 := ⟨_, _, _, rfl, uw_Reas, by decide, Or.inl (wt1 237 rfl rfl)⟩
theorem fg_Reas_15 : FG "FeatureUnions$Reasons" 15 7 1 := ⟨_, _, _, rfl, uw_Reas, by decide, Or.inl (wt1 238 rfl rfl)⟩
theorem fg_Reas_36 : FG "FeatureUnions$Reasons" 36 5 1 := ⟨_, _, _, rfl, uw_Snap, by decide, Or.inl (wt1 163 rfl rfl)⟩
theorem fg_Reas_42 : FG "FeatureUnions$Reasons" 42 2 1 := ⟨_, _, _, rfl, uw_Feats, by decide, Or.inl (wt1 57 rfl rfl)⟩
theorem fg_Reas_58 : FG "FeatureUnions$Reasons" 58 5 9 := ⟨_, _, _, rfl, uw_Snap, by decide, Or.inl (wt1 180 rfl rfl)⟩
theorem fg_Reas_65 : FG "FeatureUnions$Reasons" 65 5 2 := ⟨_, _, _, rfl, uw_Snap, by decide, Or.inl (wt1 166 rfl rfl)⟩
theorem fg_Reas_81 : FG "FeatureUnions$Reasons" 81 5 10 := ⟨_, _, _, rfl, uw_Snap, by decide, Or.inl (wt1 183 rfl rfl)⟩
theorem fg_Reas_84 : FG "FeatureUnions$Reasons" 84 5 3 := ⟨_, _, _, rfl, uw_Snap, by decide, Or.inl (wt1 169 rfl rfl)⟩
theorem fg_Reas_88 : FG "FeatureUnions$Reasons" 88 4 4 := ⟨_, _, _, rfl, uw_Turns, by decide, Or.inl (wt1 140 rfl rfl)⟩
theorem fg_Reas_93 : FG "FeatureUnions$Reasons" 93 4 1 := ⟨_, _, _, rfl, uw_Turns, by decide, Or.inl (wt1 131 rfl rfl)⟩
theorem fg_Reas_99 : FG "FeatureUnions$Reasons" 99 4 2 := ⟨_, _, _, rfl, uw_Turns, by decide, Or.inl (wt1 134 rfl rfl)⟩
theorem fg_Reas_102 : FG "FeatureUnions$Reasons" 102 4 3 := ⟨_, _, _, rfl, uw_Turns, by decide, Or.inl (wt1 137 rfl rfl)⟩
theorem fg_Reas_108 : FG "FeatureUnions$Reasons" 108 5 0 := ⟨_, _, _, rfl, uw_Snap, by decide, Or.inl (wt1 160 rfl rfl)⟩
theorem fg_Reas_112 : FG "FeatureUnions$Reasons" 112 1 3 := ⟨_, _, _, rfl, uw_Packs, by decide, Or.inl (wt1 34 rfl rfl)⟩
theorem fg_Snap_9 : FG "FeatureUnions$Snapshot" 9 5 4 := ⟨_, _, _, rfl, uw_Snap, by decide, Or.inl (wt1 171 rfl rfl)⟩
theorem fp_Snap_9 : FPo "FeatureUnions$Snapshot" 9 5 4 .int := ⟨_, _, _, ty_Snap, rfl, uw_Snap, to_Snap, nm_Snap, by decide, Or.inl (wt1 171 rfl rfl), rfl, rfl⟩
theorem fp_Snap_15 : FPo "FeatureUnions$Snapshot" 15 5 5 .int := ⟨_, _, _, ty_Snap, rfl, uw_Snap, to_Snap, nm_Snap, by decide, Or.inl (wt1 172 rfl rfl), rfl, rfl⟩
theorem fg_Snap_18 : FG "FeatureUnions$Snapshot" 18 5 6 := ⟨_, _, _, rfl, uw_Snap, by decide, Or.inl (wt1 174 rfl rfl)⟩
theorem fp_Snap_18 : FPo "FeatureUnions$Snapshot" 18 5 6 .int := ⟨_, _, _, ty_Snap, rfl, uw_Snap, to_Snap, nm_Snap, by decide, Or.inl (wt1 174 rfl rfl), rfl, rfl⟩
theorem fp_Snap_21 : FPo "FeatureUnions$Snapshot" 21 5 7 .int := ⟨_, _, _, ty_Snap, rfl, uw_Snap, to_Snap, nm_Snap, by decide, Or.inl (wt1 175 rfl rfl), rfl, rfl⟩
theorem fp_Snap_24 : FPo "FeatureUnions$Snapshot" 24 5 8 .int := ⟨_, _, _, ty_Snap, rfl, uw_Snap, to_Snap, nm_Snap, by decide, Or.inl (wt1 177 rfl rfl), rfl, rfl⟩
theorem fp_Snap_27 : FPo "FeatureUnions$Snapshot" 27 5 9 .int := ⟨_, _, _, ty_Snap, rfl, uw_Snap, to_Snap, nm_Snap, by decide, Or.inl (wt1 179 rfl rfl), rfl, rfl⟩
theorem fp_Snap_30 : FPo "FeatureUnions$Snapshot" 30 5 10 .int := ⟨_, _, _, ty_Snap, rfl, uw_Snap, to_Snap, nm_Snap, by decide, Or.inl (wt1 182 rfl rfl), rfl, rfl⟩
theorem fg_Snap_33 : FG "FeatureUnions$Snapshot" 33 5 11 := ⟨_, _, _, rfl, uw_Snap, by decide, Or.inl (wt1 185 rfl rfl)⟩
theorem fg_Snap_37 : FG "FeatureUnions$Snapshot" 37 5 0 := ⟨_, _, _, rfl, uw_Snap, by decide, Or.inl (wt1 159 rfl rfl)⟩
theorem fg_Snap_41 : FG "FeatureUnions$Snapshot" 41 5 1 := ⟨_, _, _, rfl, uw_Snap, by decide, Or.inl (wt1 162 rfl rfl)⟩
theorem fg_Snap_45 : FG "FeatureUnions$Snapshot" 45 5 2 := ⟨_, _, _, rfl, uw_Snap, by decide, Or.inl (wt1 165 rfl rfl)⟩
theorem fg_Snap_49 : FG "FeatureUnions$Snapshot" 49 5 3 := ⟨_, _, _, rfl, uw_Snap, by decide, Or.inl (wt1 168 rfl rfl)⟩
theorem fg_Snap_53 : FG "FeatureUnions$Snapshot" 53 1 1 := ⟨_, _, _, rfl, uw_Packs, by decide, Or.inl (wt1 29 rfl rfl)⟩
theorem fg_Snap_56 : FG "FeatureUnions$Snapshot" 56 1 2 := ⟨_, _, _, rfl, uw_Packs, by decide, Or.inl (wt1 32 rfl rfl)⟩
theorem fg_Snap_57 : FG "FeatureUnions$Snapshot" 57 1 0 := ⟨_, _, _, rfl, uw_Packs, by decide, Or.inl (wt1 27 rfl rfl)⟩
theorem fg_Snap_60 : FG "FeatureUnions$Snapshot" 60 2 0 := ⟨_, _, _, rfl, uw_Feats, by decide, Or.inl (wt1 53 rfl rfl)⟩
theorem fg_Snap_63 : FG "FeatureUnions$Snapshot" 63 3 0 := ⟨_, _, _, rfl, uw_Users, by decide, Or.inl (wt1 84 rfl rfl)⟩
theorem fg_Snap_66 : FG "FeatureUnions$Snapshot" 66 4 0 := ⟨_, _, _, rfl, uw_Turns, by decide, Or.inl (wt1 128 rfl rfl)⟩
theorem fg_Snap_69 : FG "FeatureUnions$Snapshot" 69 3 4 := ⟨_, _, _, rfl, uw_Users, by decide, Or.inl (wt1 96 rfl rfl)⟩
theorem fg_Snap_76 : FG "FeatureUnions$Snapshot" 76 3 3 := ⟨_, _, _, rfl, uw_Users, by decide, Or.inl (wt1 94 rfl rfl)⟩
theorem fg_Snap_83 : FG "FeatureUnions$Snapshot" 83 2 1 := ⟨_, _, _, rfl, uw_Feats, by decide, Or.inl (wt1 56 rfl rfl)⟩
theorem fg_Snap_86 : FG "FeatureUnions$Snapshot" 86 3 2 := ⟨_, _, _, rfl, uw_Users, by decide, Or.inl (wt1 90 rfl rfl)⟩
theorem fg_Snap_89 : FG "FeatureUnions$Snapshot" 89 2 2 := ⟨_, _, _, rfl, uw_Feats, by decide, Or.inl (wt1 61 rfl rfl)⟩
theorem fg_Snap_92 : FG "FeatureUnions$Snapshot" 92 3 5 := ⟨_, _, _, rfl, uw_Users, by decide, Or.inl (wt1 99 rfl rfl)⟩
theorem fg_Snap_96 : FG "FeatureUnions$Snapshot" 96 2 4 := ⟨_, _, _, rfl, uw_Feats, by decide, Or.inl (wt1 64 rfl rfl)⟩
theorem fg_Turns_9 : FG "FeatureUnions$Turns" 9 4 0 := ⟨_, _, _, rfl, uw_Turns, by decide, Or.inl (wt1 127 rfl rfl)⟩
theorem fp_Turns_9 : FPo "FeatureUnions$Turns" 9 4 0 .int := ⟨_, _, _, ty_Turns, rfl, uw_Turns, to_Turns, nm_Turns, by decide, Or.inl (wt1 127 rfl rfl), rfl, rfl⟩
theorem fg_Turns_15 : FG "FeatureUnions$Turns" 15 4 1 := ⟨_, _, _, rfl, uw_Turns, by decide, Or.inl (wt1 130 rfl rfl)⟩
theorem fg_Turns_19 : FG "FeatureUnions$Turns" 19 4 2 := ⟨_, _, _, rfl, uw_Turns, by decide, Or.inl (wt1 133 rfl rfl)⟩
theorem fg_Turns_22 : FG "FeatureUnions$Turns" 22 4 3 := ⟨_, _, _, rfl, uw_Turns, by decide, Or.inl (wt1 136 rfl rfl)⟩
theorem fg_Turns_25 : FG "FeatureUnions$Turns" 25 4 4 := ⟨_, _, _, rfl, uw_Turns, by decide, Or.inl (wt1 139 rfl rfl)⟩
theorem fg_Users_9 : FG "FeatureUnions$Users" 9 3 0 := ⟨_, _, _, rfl, uw_Users, by decide, Or.inl (wt1 83 rfl rfl)⟩
theorem fp_Users_9 : FPo "FeatureUnions$Users" 9 3 0 .int := ⟨_, _, _, ty_Users, rfl, uw_Users, to_Users, nm_Users, by decide, Or.inl (wt1 83 rfl rfl), rfl, rfl⟩
theorem fg_Users_15 : FG "FeatureUnions$Users" 15 3 1 := ⟨_, _, _, rfl, uw_Users, by decide, Or.inl (wt1 86 rfl rfl)⟩
theorem fg_Users_19 : FG "FeatureUnions$Users" 19 3 2 := ⟨_, _, _, rfl, uw_Users, by decide, Or.inl (wt1 89 rfl rfl)⟩
theorem fg_Users_22 : FG "FeatureUnions$Users" 22 3 3 := ⟨_, _, _, rfl, uw_Users, by decide, Or.inl (wt1 93 rfl rfl)⟩
theorem fg_Users_28 : FG "FeatureUnions$Users" 28 3 5 := ⟨_, _, _, rfl, uw_Users, by decide, Or.inl (wt1 98 rfl rfl)⟩
theorem fg_Users_32 : FG "FeatureUnions$Users" 32 3 6 := ⟨_, _, _, rfl, uw_Users, by decide, Or.inl (wt1 100 rfl rfl)⟩
theorem fg_Users_35 : FG "FeatureUnions$Users" 35 3 7 := ⟨_, _, _, rfl, uw_Users, by decide, Or.inl (wt1 101 rfl rfl)⟩
theorem fg_Mod_7 : FG "FeatureUnionsModel" 7 8 6 := ⟨_, _, _, rfl, uw_Mod, by decide, Or.inl (wt3 55 rfl rfl)⟩
theorem fg_Mod_13 : FG "FeatureUnionsModel" 13 8 7 := ⟨_, _, _, rfl, uw_Mod, by decide, Or.inl (wt3 56 rfl rfl)⟩
theorem fg_Mod_16 : FG "FeatureUnionsModel" 16 8 8 := ⟨_, _, _, rfl, uw_Mod, by decide, Or.inl (wt3 57 rfl rfl)⟩
theorem fg_Mod_19 : FG "FeatureUnionsModel" 19 8 9 := ⟨_, _, _, rfl, uw_Mod, by decide, Or.inl (wt3 58 rfl rfl)⟩
theorem fg_Mod_23 : FG "FeatureUnionsModel" 23 8 10 := ⟨_, _, _, rfl, uw_Mod, by decide, Or.inl (wt3 59 rfl rfl)⟩
theorem fg_Mod_26 : FG "FeatureUnionsModel" 26 8 11 := ⟨_, _, _, rfl, uw_Mod, by decide, Or.inl (wt3 60 rfl rfl)⟩
theorem fg_Mod_29 : FG "FeatureUnionsModel" 29 8 12 := ⟨_, _, _, rfl, uw_Mod, by decide, Or.inl (wt3 61 rfl rfl)⟩
theorem fg_Mod_32 : FG "FeatureUnionsModel" 32 8 13 := ⟨_, _, _, rfl, uw_Mod, by decide, Or.inl (wt3 62 rfl rfl)⟩
theorem fg_Mod_35 : FG "FeatureUnionsModel" 35 8 14 := ⟨_, _, _, rfl, uw_Mod, by decide, Or.inl (wt3 63 rfl rfl)⟩
theorem fg_Mod_38 : FG "FeatureUnionsModel" 38 8 15 := ⟨_, _, _, rfl, uw_Mod, by decide, Or.inl (wt3 64 rfl rfl)⟩
theorem fg_Mod_41 : FG "FeatureUnionsModel" 41 8 16 := ⟨_, _, _, rfl, uw_Mod, by decide, Or.inl (wt3 65 rfl rfl)⟩
theorem fg_Mod_44 : FG "FeatureUnionsModel" 44 8 17 := ⟨_, _, _, rfl, uw_Mod, by decide, Or.inl (wt3 66 rfl rfl)⟩
theorem fg_Mod_47 : FG "FeatureUnionsModel" 47 8 18 := ⟨_, _, _, rfl, uw_Mod, by decide, Or.inl (wt3 67 rfl rfl)⟩
theorem fg_Mod_50 : FG "FeatureUnionsModel" 50 8 19 := ⟨_, _, _, rfl, uw_Mod, by decide, Or.inl (wt3 68 rfl rfl)⟩
theorem fg_Mod_53 : FG "FeatureUnionsModel" 53 8 20 := ⟨_, _, _, rfl, uw_Mod, by decide, Or.inl (wt3 69 rfl rfl)⟩
theorem fg_Mod_56 : FG "FeatureUnionsModel" 56 8 21 := ⟨_, _, _, rfl, uw_Mod, by decide, Or.inl (wt3 70 rfl rfl)⟩
theorem fg_Mod_59 : FG "FeatureUnionsModel" 59 8 22 := ⟨_, _, _, rfl, uw_Mod, by decide, Or.inl (wt3 71 rfl rfl)⟩
theorem fg_Mod_62 : FG "FeatureUnionsModel" 62 8 23 := ⟨_, _, _, rfl, uw_Mod, by decide, Or.inl (wt3 72 rfl rfl)⟩
theorem fg_Mod_65 : FG "FeatureUnionsModel" 65 8 24 := ⟨_, _, _, rfl, uw_Mod, by decide, Or.inl (wt3 73 rfl rfl)⟩
theorem fg_Mod_68 : FG "FeatureUnionsModel" 68 8 31 := ⟨_, _, _, rfl, uw_Mod, by decide, Or.inl (wt3 80 rfl rfl)⟩
theorem fg_Mod_71 : FG "FeatureUnionsModel" 71 8 34 := ⟨_, _, _, rfl, uw_Mod, by decide, Or.inl (wt3 83 rfl rfl)⟩
theorem fg_Mod_74 : FG "FeatureUnionsModel" 74 8 35 := ⟨_, _, _, rfl, uw_Mod, by decide, Or.inl (wt3 84 rfl rfl)⟩
theorem fg_Mod_77 : FG "FeatureUnionsModel" 77 8 36 := ⟨_, _, _, rfl, uw_Mod, by decide, Or.inl (wt3 85 rfl rfl)⟩
theorem fg_Mod_80 : FG "FeatureUnionsModel" 80 8 37 := ⟨_, _, _, rfl, uw_Mod, by decide, Or.inl (wt3 86 rfl rfl)⟩
theorem fg_Mod_83 : FG "FeatureUnionsModel" 83 8 38 := ⟨_, _, _, rfl, uw_Mod, by decide, Or.inl (wt3 87 rfl rfl)⟩
theorem fg_Mod_86 : FG "FeatureUnionsModel" 86 8 39 := ⟨_, _, _, rfl, uw_Mod, by decide, Or.inl (wt3 88 rfl rfl)⟩
theorem fg_Mod_89 : FG "FeatureUnionsModel" 89 8 40 := ⟨_, _, _, rfl, uw_Mod, by decide, Or.inl (wt3 89 rfl rfl)⟩
theorem fp_Mod_89 : FPo "FeatureUnionsModel" 89 8 40 .int := ⟨_, _, _, ty_Mod, rfl, uw_Mod, to_Mod, nm_Mod, by decide, Or.inl (wt3 89 rfl rfl), rfl, rfl⟩
theorem fg_Mod_93 : FG "FeatureUnionsModel" 93 8 41 := ⟨_, _, _, rfl, uw_Mod, by decide, Or.inl (wt3 90 rfl rfl)⟩
theorem fg_Mod_96 : FG "FeatureUnionsModel" 96 8 43 := ⟨_, _, _, rfl, uw_Mod, by decide, Or.inl (wt3 92 rfl rfl)⟩
theorem fg_Mod_99 : FG "FeatureUnionsModel" 99 8 44 := ⟨_, _, _, rfl, uw_Mod, by decide, Or.inl (wt3 93 rfl rfl)⟩
theorem fp_Mod_102 : FPo "FeatureUnionsModel" 102 8 0 .int := ⟨_, _, _, ty_Mod, rfl, uw_Mod, to_Mod, nm_Mod, by decide, Or.inl (wt3 49 rfl rfl), rfl, rfl⟩
theorem fg_Mod_105 : FG "FeatureUnionsModel" 105 8 1 := ⟨_, _, _, rfl, uw_Mod, by decide, Or.inl (wt3 50 rfl rfl)⟩
theorem fp_Mod_105 : FPo "FeatureUnionsModel" 105 8 1 .int := ⟨_, _, _, ty_Mod, rfl, uw_Mod, to_Mod, nm_Mod, by decide, Or.inl (wt3 50 rfl rfl), rfl, rfl⟩
theorem fg_Mod_108 : FG "FeatureUnionsModel" 108 8 3 := ⟨_, _, _, rfl, uw_Mod, by decide, Or.inl (wt3 52 rfl rfl)⟩
theorem fp_Mod_108 : FPo "FeatureUnionsModel" 108 8 3 .int := ⟨_, _, _, ty_Mod, rfl, uw_Mod, to_Mod, nm_Mod, by decide, Or.inl (wt3 52 rfl rfl), rfl, rfl⟩
theorem fg_Mod_111 : FG "FeatureUnionsModel" 111 8 2 := ⟨_, _, _, rfl, uw_Mod, by decide, Or.inl (wt3 51 rfl rfl)⟩
theorem fp_Mod_111 : FPo "FeatureUnionsModel" 111 8 2 .int := ⟨_, _, _, ty_Mod, rfl, uw_Mod, to_Mod, nm_Mod, by decide, Or.inl (wt3 51 rfl rfl), rfl, rfl⟩
theorem fg_Mod_114 : FG "FeatureUnionsModel" 114 8 33 := ⟨_, _, _, rfl, uw_Mod, by decide, Or.inl (wt3 82 rfl rfl)⟩
theorem fp_Mod_114 : FPo "FeatureUnionsModel" 114 8 33 .boolean := ⟨_, _, _, ty_Mod, rfl, uw_Mod, to_Mod, nm_Mod, by decide, Or.inl (wt3 82 rfl rfl), rfl, rfl⟩
theorem fg_Mod_133 : FG "FeatureUnionsModel" 133 8 4 := ⟨_, _, _, rfl, uw_Mod, by decide, Or.inl (wt3 53 rfl rfl)⟩
theorem fp_Mod_133 : FPo "FeatureUnionsModel" 133 8 4 .int := ⟨_, _, _, ty_Mod, rfl, uw_Mod, to_Mod, nm_Mod, by decide, Or.inl (wt3 53 rfl rfl), rfl, rfl⟩
theorem fg_Mod_143 : FG "FeatureUnionsModel" 143 8 5 := ⟨_, _, _, rfl, uw_Mod, by decide, Or.inl (wt3 54 rfl rfl)⟩
theorem fp_Mod_143 : FPo "FeatureUnionsModel" 143 8 5 .int := ⟨_, _, _, ty_Mod, rfl, uw_Mod, to_Mod, nm_Mod, by decide, Or.inl (wt3 54 rfl rfl), rfl, rfl⟩
theorem fg_Mod_146 : FG "FeatureUnionsModel" 146 8 30 := ⟨_, _, _, rfl, uw_Mod, by decide, Or.inl (wt3 79 rfl rfl)⟩
theorem fp_Mod_146 : FPo "FeatureUnionsModel" 146 8 30 .int := ⟨_, _, _, ty_Mod, rfl, uw_Mod, to_Mod, nm_Mod, by decide, Or.inl (wt3 79 rfl rfl), rfl, rfl⟩
theorem fg_Mod_149 : FG "FeatureUnionsModel" 149 8 27 := ⟨_, _, _, rfl, uw_Mod, by decide, Or.inl (wt3 76 rfl rfl)⟩
theorem fp_Mod_149 : FPo "FeatureUnionsModel" 149 8 27 .int := ⟨_, _, _, ty_Mod, rfl, uw_Mod, to_Mod, nm_Mod, by decide, Or.inl (wt3 76 rfl rfl), rfl, rfl⟩
theorem fg_Mod_162 : FG "FeatureUnionsModel" 162 8 29 := ⟨_, _, _, rfl, uw_Mod, by decide, Or.inl (wt3 78 rfl rfl)⟩
theorem fp_Mod_162 : FPo "FeatureUnionsModel" 162 8 29 .int := ⟨_, _, _, ty_Mod, rfl, uw_Mod, to_Mod, nm_Mod, by decide, Or.inl (wt3 78 rfl rfl), rfl, rfl⟩
theorem fg_Mod_165 : FG "FeatureUnionsModel" 165 8 45 := ⟨_, _, _, rfl, uw_Mod, by decide, Or.inl (wt3 94 rfl rfl)⟩
theorem fp_Mod_165 : FPo "FeatureUnionsModel" 165 8 45 .int := ⟨_, _, _, ty_Mod, rfl, uw_Mod, to_Mod, nm_Mod, by decide, Or.inl (wt3 94 rfl rfl), rfl, rfl⟩
theorem fg_Mod_172 : FG "FeatureUnionsModel" 172 8 28 := ⟨_, _, _, rfl, uw_Mod, by decide, Or.inl (wt3 77 rfl rfl)⟩
theorem fp_Mod_172 : FPo "FeatureUnionsModel" 172 8 28 .int := ⟨_, _, _, ty_Mod, rfl, uw_Mod, to_Mod, nm_Mod, by decide, Or.inl (wt3 77 rfl rfl), rfl, rfl⟩
theorem fg_Mod_183 : FG "FeatureUnionsModel" 183 8 25 := ⟨_, _, _, rfl, uw_Mod, by decide, Or.inl (wt3 74 rfl rfl)⟩
theorem fp_Mod_183 : FPo "FeatureUnionsModel" 183 8 25 .int := ⟨_, _, _, ty_Mod, rfl, uw_Mod, to_Mod, nm_Mod, by decide, Or.inl (wt3 74 rfl rfl), rfl, rfl⟩
theorem fg_Mod_193 : FG "FeatureUnionsModel" 193 8 26 := ⟨_, _, _, rfl, uw_Mod, by decide, Or.inl (wt3 75 rfl rfl)⟩
theorem fp_Mod_193 : FPo "FeatureUnionsModel" 193 8 26 .int := ⟨_, _, _, ty_Mod, rfl, uw_Mod, to_Mod, nm_Mod, by decide, Or.inl (wt3 75 rfl rfl), rfl, rfl⟩
theorem fg_Mod_199 : FG "FeatureUnionsModel" 199 8 32 := ⟨_, _, _, rfl, uw_Mod, by decide, Or.inl (wt3 81 rfl rfl)⟩
theorem fp_Mod_199 : FPo "FeatureUnionsModel" 199 8 32 .boolean := ⟨_, _, _, ty_Mod, rfl, uw_Mod, to_Mod, nm_Mod, by decide, Or.inl (wt3 81 rfl rfl), rfl, rfl⟩
theorem fg_Mod_212 : FG "FeatureUnionsModel" 212 8 42 := ⟨_, _, _, rfl, uw_Mod, by decide, Or.inl (wt3 91 rfl rfl)⟩
theorem fp_Mod_212 : FPo "FeatureUnionsModel" 212 8 42 .int := ⟨_, _, _, ty_Mod, rfl, uw_Mod, to_Mod, nm_Mod, by decide, Or.inl (wt3 91 rfl rfl), rfl, rfl⟩
theorem fq_FU_12 : FP "FeatureUnions" 12 0 0 (ty_FU 0) true := ⟨_, _, _, ty_FU, rfl, uw_FU, to_FU, nm_FU, by decide, wt2 4 rfl rfl, rfl, rfl, by decide +kernel⟩
theorem fq_FU_19 : FP "FeatureUnions" 19 0 1 (ty_FU 1) true := ⟨_, _, _, ty_FU, rfl, uw_FU, to_FU, nm_FU, by decide, wt2 5 rfl rfl, rfl, rfl, by decide +kernel⟩
theorem fq_FU_26 : FP "FeatureUnions" 26 0 2 (ty_FU 2) true := ⟨_, _, _, ty_FU, rfl, uw_FU, to_FU, nm_FU, by decide, wt2 6 rfl rfl, rfl, rfl, by decide +kernel⟩
theorem fq_FU_33 : FP "FeatureUnions" 33 0 3 (ty_FU 3) true := ⟨_, _, _, ty_FU, rfl, uw_FU, to_FU, nm_FU, by decide, wt2 7 rfl rfl, rfl, rfl, by decide +kernel⟩
theorem fq_FU_42 : FP "FeatureUnions" 42 0 4 (ty_FU 4) true := ⟨_, _, _, ty_FU, rfl, uw_FU, to_FU, nm_FU, by decide, wt2 8 rfl rfl, rfl, rfl, by decide +kernel⟩
theorem fq_FU_51 : FP "FeatureUnions" 51 0 5 (ty_FU 5) true := ⟨_, _, _, ty_FU, rfl, uw_FU, to_FU, nm_FU, by decide, wt2 9 rfl rfl, rfl, rfl, by decide +kernel⟩
theorem fq_FU_55 : FP "FeatureUnions" 55 0 6 (ty_FU 6) true := ⟨_, _, _, ty_FU, rfl, uw_FU, to_FU, nm_FU, by decide, wt2 10 rfl rfl, rfl, rfl, by decide +kernel⟩
theorem fq_FU_63 : FP "FeatureUnions" 63 0 7 (ty_FU 7) true := ⟨_, _, _, ty_FU, rfl, uw_FU, to_FU, nm_FU, by decide, wt2 11 rfl rfl, rfl, rfl, by decide +kernel⟩
theorem fq_FU_67 : FP "FeatureUnions" 67 0 8 (ty_FU 8) true := ⟨_, _, _, ty_FU, rfl, uw_FU, to_FU, nm_FU, by decide, wt2 12 rfl rfl, rfl, rfl, by decide +kernel⟩
theorem fq_Clo_9 : FP "FeatureUnions$Closure" 9 6 1 (ty_Clo 1) true := ⟨_, _, _, ty_Clo, rfl, uw_Clo, to_Clo, nm_Clo, by decide, wt1 219 rfl rfl, rfl, rfl, by decide +kernel⟩
theorem fq_Clo_15 : FP "FeatureUnions$Closure" 15 6 2 (ty_Clo 2) true := ⟨_, _, _, ty_Clo, rfl, uw_Clo, to_Clo, nm_Clo, by decide, wt1 220 rfl rfl, rfl, rfl, by decide +kernel⟩
theorem fq_Clo_22 : FP "FeatureUnions$Closure" 22 6 0 (ty_Clo 0) true := ⟨_, _, _, ty_Clo, rfl, uw_Clo, to_Clo, nm_Clo, by decide, wt1 218 rfl rfl, rfl, rfl, by decide +kernel⟩
theorem fq_Feats_15 : FP "FeatureUnions$Features" 15 2 1 (ty_Feats 1) true := ⟨_, _, _, ty_Feats, rfl, uw_Feats, to_Feats, nm_Feats, by decide, wt1 55 rfl rfl, rfl, rfl, by decide +kernel⟩
theorem fq_Feats_19 : FP "FeatureUnions$Features" 19 2 2 (ty_Feats 2) true := ⟨_, _, _, ty_Feats, rfl, uw_Feats, to_Feats, nm_Feats, by decide, wt1 60 rfl rfl, rfl, rfl, by decide +kernel⟩
theorem fq_Feats_22 : FP "FeatureUnions$Features" 22 2 3 (ty_Feats 3) true := ⟨_, _, _, ty_Feats, rfl, uw_Feats, to_Feats, nm_Feats, by decide, wt1 62 rfl rfl, rfl, rfl, by decide +kernel⟩
theorem fq_Feats_25 : FP "FeatureUnions$Features" 25 2 4 (ty_Feats 4) true := ⟨_, _, _, ty_Feats, rfl, uw_Feats, to_Feats, nm_Feats, by decide, wt1 63 rfl rfl, rfl, rfl, by decide +kernel⟩
theorem fq_Packs_21 : FP "FeatureUnions$Packs" 21 1 3 (ty_Packs 3) true := ⟨_, _, _, ty_Packs, rfl, uw_Packs, to_Packs, nm_Packs, by decide, wt1 33 rfl rfl, rfl, rfl, by decide +kernel⟩
theorem fq_Reas_9 : FP "FeatureUnions$Reasons" 9 7 0 (ty_Reas 0) true := ⟨_, _, _, ty_Reas, rfl, uw_Reas, to_Reas, nm_Reas, by decide, wt1 237 rfl rfl, rfl, rfl, by decide +kernel⟩
theorem fq_Reas_15 : FP "FeatureUnions$Reasons" 15 7 1 (ty_Reas 1) true := ⟨_, _, _, ty_Reas, rfl, uw_Reas, to_Reas, nm_Reas, by decide, wt1 238 rfl rfl, rfl, rfl, by decide +kernel⟩
theorem fq_Snap_33 : FP "FeatureUnions$Snapshot" 33 5 11 (ty_Snap 11) true := ⟨_, _, _, ty_Snap, rfl, uw_Snap, to_Snap, nm_Snap, by decide, wt1 185 rfl rfl, rfl, rfl, by decide +kernel⟩
theorem fq_Snap_37 : FP "FeatureUnions$Snapshot" 37 5 0 (ty_Snap 0) true := ⟨_, _, _, ty_Snap, rfl, uw_Snap, to_Snap, nm_Snap, by decide, wt1 159 rfl rfl, rfl, rfl, by decide +kernel⟩
theorem fq_Snap_41 : FP "FeatureUnions$Snapshot" 41 5 1 (ty_Snap 1) true := ⟨_, _, _, ty_Snap, rfl, uw_Snap, to_Snap, nm_Snap, by decide, wt1 162 rfl rfl, rfl, rfl, by decide +kernel⟩
theorem fq_Snap_45 : FP "FeatureUnions$Snapshot" 45 5 2 (ty_Snap 2) true := ⟨_, _, _, ty_Snap, rfl, uw_Snap, to_Snap, nm_Snap, by decide, wt1 165 rfl rfl, rfl, rfl, by decide +kernel⟩
theorem fq_Snap_49 : FP "FeatureUnions$Snapshot" 49 5 3 (ty_Snap 3) true := ⟨_, _, _, ty_Snap, rfl, uw_Snap, to_Snap, nm_Snap, by decide, wt1 168 rfl rfl, rfl, rfl, by decide +kernel⟩
theorem fq_Turns_15 : FP "FeatureUnions$Turns" 15 4 1 (ty_Turns 1) true := ⟨_, _, _, ty_Turns, rfl, uw_Turns, to_Turns, nm_Turns, by decide, wt1 130 rfl rfl, rfl, rfl, by decide +kernel⟩
theorem fq_Turns_19 : FP "FeatureUnions$Turns" 19 4 2 (ty_Turns 2) true := ⟨_, _, _, ty_Turns, rfl, uw_Turns, to_Turns, nm_Turns, by decide, wt1 133 rfl rfl, rfl, rfl, by decide +kernel⟩
theorem fq_Turns_22 : FP "FeatureUnions$Turns" 22 4 3 (ty_Turns 3) true := ⟨_, _, _, ty_Turns, rfl, uw_Turns, to_Turns, nm_Turns, by decide, wt1 136 rfl rfl, rfl, rfl, by decide +kernel⟩
theorem fq_Turns_25 : FP "FeatureUnions$Turns" 25 4 4 (ty_Turns 4) true := ⟨_, _, _, ty_Turns, rfl, uw_Turns, to_Turns, nm_Turns, by decide, wt1 139 rfl rfl, rfl, rfl, by decide +kernel⟩
theorem fq_Users_15 : FP "FeatureUnions$Users" 15 3 1 (ty_Users 1) true := ⟨_, _, _, ty_Users, rfl, uw_Users, to_Users, nm_Users, by decide, wt1 86 rfl rfl, rfl, rfl, by decide +kernel⟩
theorem fq_Users_19 : FP "FeatureUnions$Users" 19 3 2 (ty_Users 2) true := ⟨_, _, _, ty_Users, rfl, uw_Users, to_Users, nm_Users, by decide, wt1 89 rfl rfl, rfl, rfl, by decide +kernel⟩
theorem fq_Users_22 : FP "FeatureUnions$Users" 22 3 3 (ty_Users 3) true := ⟨_, _, _, ty_Users, rfl, uw_Users, to_Users, nm_Users, by decide, wt1 93 rfl rfl, rfl, rfl, by decide +kernel⟩
theorem fq_Users_25 : FP "FeatureUnions$Users" 25 3 4 (ty_Users 4) true := ⟨_, _, _, ty_Users, rfl, uw_Users, to_Users, nm_Users, by decide, wt1 95 rfl rfl, rfl, rfl, by decide +kernel⟩
theorem fq_Users_28 : FP "FeatureUnions$Users" 28 3 5 (ty_Users 5) true := ⟨_, _, _, ty_Users, rfl, uw_Users, to_Users, nm_Users, by decide, wt1 98 rfl rfl, rfl, rfl, by decide +kernel⟩
theorem fq_Users_32 : FP "FeatureUnions$Users" 32 3 6 (ty_Users 6) true := ⟨_, _, _, ty_Users, rfl, uw_Users, to_Users, nm_Users, by decide, wt1 100 rfl rfl, rfl, rfl, by decide +kernel⟩
theorem fq_Users_35 : FP "FeatureUnions$Users" 35 3 7 (ty_Users 7) true := ⟨_, _, _, ty_Users, rfl, uw_Users, to_Users, nm_Users, by decide, wt1 101 rfl rfl, rfl, rfl, by decide +kernel⟩
theorem fq_Mod_7 : FP "FeatureUnionsModel" 7 8 6 (ty_Mod 6) true := ⟨_, _, _, ty_Mod, rfl, uw_Mod, to_Mod, nm_Mod, by decide, wt3 55 rfl rfl, rfl, rfl, by decide +kernel⟩
theorem fq_Mod_13 : FP "FeatureUnionsModel" 13 8 7 (ty_Mod 7) true := ⟨_, _, _, ty_Mod, rfl, uw_Mod, to_Mod, nm_Mod, by decide, wt3 56 rfl rfl, rfl, rfl, by decide +kernel⟩
theorem fq_Mod_16 : FP "FeatureUnionsModel" 16 8 8 (ty_Mod 8) true := ⟨_, _, _, ty_Mod, rfl, uw_Mod, to_Mod, nm_Mod, by decide, wt3 57 rfl rfl, rfl, rfl, by decide +kernel⟩
theorem fq_Mod_19 : FP "FeatureUnionsModel" 19 8 9 (ty_Mod 9) true := ⟨_, _, _, ty_Mod, rfl, uw_Mod, to_Mod, nm_Mod, by decide, wt3 58 rfl rfl, rfl, rfl, by decide +kernel⟩
theorem fq_Mod_23 : FP "FeatureUnionsModel" 23 8 10 (ty_Mod 10) true := ⟨_, _, _, ty_Mod, rfl, uw_Mod, to_Mod, nm_Mod, by decide, wt3 59 rfl rfl, rfl, rfl, by decide +kernel⟩
theorem fq_Mod_26 : FP "FeatureUnionsModel" 26 8 11 (ty_Mod 11) true := ⟨_, _, _, ty_Mod, rfl, uw_Mod, to_Mod, nm_Mod, by decide, wt3 60 rfl rfl, rfl, rfl, by decide +kernel⟩
theorem fq_Mod_29 : FP "FeatureUnionsModel" 29 8 12 (ty_Mod 12) true := ⟨_, _, _, ty_Mod, rfl, uw_Mod, to_Mod, nm_Mod, by decide, wt3 61 rfl rfl, rfl, rfl, by decide +kernel⟩
theorem fq_Mod_32 : FP "FeatureUnionsModel" 32 8 13 (ty_Mod 13) true := ⟨_, _, _, ty_Mod, rfl, uw_Mod, to_Mod, nm_Mod, by decide, wt3 62 rfl rfl, rfl, rfl, by decide +kernel⟩
theorem fq_Mod_35 : FP "FeatureUnionsModel" 35 8 14 (ty_Mod 14) true := ⟨_, _, _, ty_Mod, rfl, uw_Mod, to_Mod, nm_Mod, by decide, wt3 63 rfl rfl, rfl, rfl, by decide +kernel⟩
theorem fq_Mod_38 : FP "FeatureUnionsModel" 38 8 15 (ty_Mod 15) true := ⟨_, _, _, ty_Mod, rfl, uw_Mod, to_Mod, nm_Mod, by decide, wt3 64 rfl rfl, rfl, rfl, by decide +kernel⟩
theorem fq_Mod_41 : FP "FeatureUnionsModel" 41 8 16 (ty_Mod 16) true := ⟨_, _, _, ty_Mod, rfl, uw_Mod, to_Mod, nm_Mod, by decide, wt3 65 rfl rfl, rfl, rfl, by decide +kernel⟩
theorem fq_Mod_44 : FP "FeatureUnionsModel" 44 8 17 (ty_Mod 17) true := ⟨_, _, _, ty_Mod, rfl, uw_Mod, to_Mod, nm_Mod, by decide, wt3 66 rfl rfl, rfl, rfl, by decide +kernel⟩
theorem fq_Mod_47 : FP "FeatureUnionsModel" 47 8 18 (ty_Mod 18) true := ⟨_, _, _, ty_Mod, rfl, uw_Mod, to_Mod, nm_Mod, by decide, wt3 67 rfl rfl, rfl, rfl, by decide +kernel⟩
theorem fq_Mod_50 : FP "FeatureUnionsModel" 50 8 19 (ty_Mod 19) true := ⟨_, _, _, ty_Mod, rfl, uw_Mod, to_Mod, nm_Mod, by decide, wt3 68 rfl rfl, rfl, rfl, by decide +kernel⟩
theorem fq_Mod_53 : FP "FeatureUnionsModel" 53 8 20 (ty_Mod 20) true := ⟨_, _, _, ty_Mod, rfl, uw_Mod, to_Mod, nm_Mod, by decide, wt3 69 rfl rfl, rfl, rfl, by decide +kernel⟩
theorem fq_Mod_56 : FP "FeatureUnionsModel" 56 8 21 (ty_Mod 21) true := ⟨_, _, _, ty_Mod, rfl, uw_Mod, to_Mod, nm_Mod, by decide, wt3 70 rfl rfl, rfl, rfl, by decide +kernel⟩
theorem fq_Mod_59 : FP "FeatureUnionsModel" 59 8 22 (ty_Mod 22) true := ⟨_, _, _, ty_Mod, rfl, uw_Mod, to_Mod, nm_Mod, by decide, wt3 71 rfl rfl, rfl, rfl, by decide +kernel⟩
theorem fq_Mod_62 : FP "FeatureUnionsModel" 62 8 23 (ty_Mod 23) true := ⟨_, _, _, ty_Mod, rfl, uw_Mod, to_Mod, nm_Mod, by decide, wt3 72 rfl rfl, rfl, rfl, by decide +kernel⟩
theorem fq_Mod_65 : FP "FeatureUnionsModel" 65 8 24 (ty_Mod 24) true := ⟨_, _, _, ty_Mod, rfl, uw_Mod, to_Mod, nm_Mod, by decide, wt3 73 rfl rfl, rfl, rfl, by decide +kernel⟩
theorem fq_Mod_68 : FP "FeatureUnionsModel" 68 8 31 (ty_Mod 31) true := ⟨_, _, _, ty_Mod, rfl, uw_Mod, to_Mod, nm_Mod, by decide, wt3 80 rfl rfl, rfl, rfl, by decide +kernel⟩
theorem fq_Mod_71 : FP "FeatureUnionsModel" 71 8 34 (ty_Mod 34) true := ⟨_, _, _, ty_Mod, rfl, uw_Mod, to_Mod, nm_Mod, by decide, wt3 83 rfl rfl, rfl, rfl, by decide +kernel⟩
theorem fq_Mod_74 : FP "FeatureUnionsModel" 74 8 35 (ty_Mod 35) true := ⟨_, _, _, ty_Mod, rfl, uw_Mod, to_Mod, nm_Mod, by decide, wt3 84 rfl rfl, rfl, rfl, by decide +kernel⟩
theorem fq_Mod_77 : FP "FeatureUnionsModel" 77 8 36 (ty_Mod 36) true := ⟨_, _, _, ty_Mod, rfl, uw_Mod, to_Mod, nm_Mod, by decide, wt3 85 rfl rfl, rfl, rfl, by decide +kernel⟩
theorem fq_Mod_80 : FP "FeatureUnionsModel" 80 8 37 (ty_Mod 37) true := ⟨_, _, _, ty_Mod, rfl, uw_Mod, to_Mod, nm_Mod, by decide, wt3 86 rfl rfl, rfl, rfl, by decide +kernel⟩
theorem fq_Mod_83 : FP "FeatureUnionsModel" 83 8 38 (ty_Mod 38) true := ⟨_, _, _, ty_Mod, rfl, uw_Mod, to_Mod, nm_Mod, by decide, wt3 87 rfl rfl, rfl, rfl, by decide +kernel⟩
theorem fq_Mod_86 : FP "FeatureUnionsModel" 86 8 39 (ty_Mod 39) true := ⟨_, _, _, ty_Mod, rfl, uw_Mod, to_Mod, nm_Mod, by decide, wt3 88 rfl rfl, rfl, rfl, by decide +kernel⟩
theorem fq_Mod_93 : FP "FeatureUnionsModel" 93 8 41 (ty_Mod 41) true := ⟨_, _, _, ty_Mod, rfl, uw_Mod, to_Mod, nm_Mod, by decide, wt3 90 rfl rfl, rfl, rfl, by decide +kernel⟩
theorem fq_Mod_96 : FP "FeatureUnionsModel" 96 8 43 (ty_Mod 43) true := ⟨_, _, _, ty_Mod, rfl, uw_Mod, to_Mod, nm_Mod, by decide, wt3 92 rfl rfl, rfl, rfl, by decide +kernel⟩
theorem fq_Mod_99 : FP "FeatureUnionsModel" 99 8 44 (ty_Mod 44) true := ⟨_, _, _, ty_Mod, rfl, uw_Mod, to_Mod, nm_Mod, by decide, wt3 93 rfl rfl, rfl, rfl, by decide +kernel⟩
theorem lm_FU_11 : LM "FeatureUnions" 11 (my q_Packs_init) := Or.inr ⟨_, wn1 21 rfl rfl⟩
theorem lm_FU_18 : LM "FeatureUnions" 18 (my q_Feats_init) := Or.inr ⟨_, wn1 48 rfl rfl⟩
theorem lm_FU_25 : LM "FeatureUnions" 25 (my q_Users_init) := Or.inr ⟨_, wn1 79 rfl rfl⟩
theorem lm_FU_32 : LM "FeatureUnions" 32 (my q_Turns_init) := Or.inr ⟨_, wn1 123 rfl rfl⟩
theorem lm_FU_39 : LM "FeatureUnions" 39 (my q_Snap_init) := Or.inl (wt1 155 rfl rfl)
theorem lm_FU_48 : LM "FeatureUnions" 48 (my q_Clo_init) := Or.inl (wt1 214 rfl rfl)
theorem lm_FU_60 : LM "FeatureUnions" 60 (my q_Reas_init) := Or.inl (wt1 233 rfl rfl)
theorem lm_FU_82 : LM "FeatureUnions" 82 (my q_Packs_add) := Or.inl (wt2 42 rfl rfl)
theorem lm_FU_86 : LM "FeatureUnions" 86 (my q_Packs_has) := Or.inl (wt2 50 rfl rfl)
theorem lm_FU_90 : LM "FeatureUnions" 90 (my q_FU_within) := Or.inl (wt2 57 rfl rfl)
theorem lm_FU_94 : LM "FeatureUnions" 94 (my q_Feats_find) := Or.inl (wt2 58 rfl rfl)
theorem lm_FU_98 : LM "FeatureUnions" 98 (my q_Feats_countOf) := Or.inl (wt2 62 rfl rfl)
theorem lm_FU_103 : LM "FeatureUnions" 103 (my q_Feats_add) := Or.inl (wt2 66 rfl rfl)
theorem lm_FU_109 : LM "FeatureUnions" 109 (my q_FU_bit) := Or.inl (wt2 74 rfl rfl)
theorem lm_FU_112 : LM "FeatureUnions" 112 (my q_Packs_makeRoot) := Or.inl (wt2 77 rfl rfl)
theorem lm_FU_117 : LM "FeatureUnions" 117 (my q_Users_add) := Or.inl (wt2 85 rfl rfl)
theorem lm_FU_120 : LM "FeatureUnions" 120 (my q_Users_has) := Or.inl (wt2 93 rfl rfl)
theorem lm_FU_127 : LM "FeatureUnions" 127 (my q_Feats_has) := Or.inl (wt2 102 rfl rfl)
theorem lm_FU_139 : LM "FeatureUnions" 139 (my q_Turns_add) := Or.inl (wt2 107 rfl rfl)
theorem lm_FU_142 : LM "FeatureUnions" 142 (my q_Snap_take) := Or.inl (wt2 115 rfl rfl)
theorem lm_FU_146 : LM "FeatureUnions" 146 (my q_Clo_close) := Or.inl (wt2 122 rfl rfl)
theorem lm_FU_149 : LM "FeatureUnions" 149 (my q_Clo_greatestStage) := Or.inl (wt2 199 rfl rfl)
theorem lm_FU_153 : LM "FeatureUnions" 153 (my q_Clo_thereStage) := Or.inl (wt2 207 rfl rfl)
theorem lm_FU_156 : LM "FeatureUnions" 156 (my q_Clo_liveStage) := Or.inl (wt2 212 rfl rfl)
theorem lm_FU_159 : LM "FeatureUnions" 159 (my q_Clo_onStage) := Or.inl (wt2 217 rfl rfl)
theorem lm_FU_162 : LM "FeatureUnions" 162 (my q_FU_on) := Or.inl (wt2 222 rfl rfl)
theorem lm_FU_165 : LM "FeatureUnions" 165 (my q_Reas_countOf) := Or.inl (wt2 223 rfl rfl)
theorem lm_FU_167 : LM "FeatureUnions" 167 (my q_Reas_find) := Or.inl (wt3 19 rfl rfl)
theorem lm_FU_170 : LM "FeatureUnions" 170 (my q_Feats_exclude) := Or.inl (wt3 27 rfl rfl)
theorem lm_FU_174 : LM "FeatureUnions" 174 (my q_FU_noteLeavers) := Or.inl (wt3 35 rfl rfl)
theorem lm_Clo_34 : LM "FeatureUnions$Closure" 34 (my q_FU_bit) := Or.inr ⟨_, wn2 126 rfl rfl⟩
theorem lm_Clo_38 : LM "FeatureUnions$Closure" 38 (my q_Clo_bringThere) := Or.inl (wt2 127 rfl rfl)
theorem lm_Clo_42 : LM "FeatureUnions$Closure" 42 (my q_Clo_follow) := Or.inl (wt2 135 rfl rfl)
theorem lm_Clo_46 : LM "FeatureUnions$Closure" 46 (my q_Clo_followThere) := Or.inl (wt2 139 rfl rfl)
theorem lm_Clo_49 : LM "FeatureUnions$Closure" 49 (my q_Clo_followLive) := Or.inl (wt2 167 rfl rfl)
theorem lm_Clo_52 : LM "FeatureUnions$Closure" 52 (my q_Clo_followOn) := Or.inl (wt2 183 rfl rfl)
theorem lm_Clo_71 : LM "FeatureUnions$Closure" 71 (my q_Clo_bringLive) := Or.inl (wt2 143 rfl rfl)
theorem lm_Clo_86 : LM "FeatureUnions$Closure" 86 (my q_Snap_isDefaultOfRoot) := Or.inl (wt2 152 rfl rfl)
theorem lm_Clo_99 : LM "FeatureUnions$Closure" 99 (my q_Clo_onStage) := Or.inl (wt2 156 rfl rfl)
theorem lm_Clo_103 : LM "FeatureUnions$Closure" 103 (my q_Clo_isBy) := Or.inl (wt2 160 rfl rfl)
theorem lm_Clo_106 : LM "FeatureUnions$Closure" 106 (my q_Clo_bringOn) := Or.inl (wt2 163 rfl rfl)
theorem lm_Clo_109 : LM "FeatureUnions$Closure" 109 (my q_Users_farSide) := Or.inl (wt2 171 rfl rfl)
theorem lm_Clo_115 : LM "FeatureUnions$Closure" 115 (my q_Snap_isAskedBy) := Or.inl (wt2 175 rfl rfl)
theorem lm_Clo_118 : LM "FeatureUnions$Closure" 118 (my q_Snap_isDefaultFor) := Or.inl (wt2 179 rfl rfl)
theorem lm_Clo_142 : LM "FeatureUnions$Closure" 142 (my q_Clo_thereStage) := Or.inl (wt2 187 rfl rfl)
theorem lm_Clo_145 : LM "FeatureUnions$Closure" 145 (my q_Clo_followTurn) := Or.inl (wt2 191 rfl rfl)
theorem lm_Clo_148 : LM "FeatureUnions$Closure" 148 (my q_Snap_counts) := Or.inl (wt2 147 rfl rfl)
theorem lm_Clo_151 : LM "FeatureUnions$Closure" 151 (my q_Clo_liveStage) := Or.inl (wt2 195 rfl rfl)
theorem lm_Clo_154 : LM "FeatureUnions$Closure" 154 (my q_Clo_bring) := Or.inl (wt2 131 rfl rfl)
theorem lm_Feats_29 : LM "FeatureUnions$Features" 29 (my q_FU_within) := Or.inr ⟨_, wn2 106 rfl rfl⟩
theorem lm_Packs_25 : LM "FeatureUnions$Packs" 25 (my q_FU_within) := Or.inr ⟨_, wn2 54 rfl rfl⟩
theorem lm_Reas_19 : LM "FeatureUnions$Reasons" 19 (my q_Reas_holds) := Or.inl (wt2 227 rfl rfl)
theorem lm_Reas_23 : LM "FeatureUnions$Reasons" 23 (my q_Reas_isByRoot) := Or.inl (wt2 231 rfl rfl)
theorem lm_Reas_26 : LM "FeatureUnions$Reasons" 26 (my q_Reas_isByUser) := Or.inl (wt2 237 rfl rfl)
theorem lm_Reas_30 : LM "FeatureUnions$Reasons" 30 (my q_Reas_isByTurn) := Or.inl (wt3 5 rfl rfl)
theorem lm_Reas_33 : LM "FeatureUnions$Reasons" 33 (my q_Reas_isByOtherSide) := Or.inl (wt3 11 rfl rfl)
theorem lm_Reas_48 : LM "FeatureUnions$Reasons" 48 (my q_Snap_isDefaultOfRoot) := Or.inl (wt2 235 rfl rfl)
theorem lm_Reas_52 : LM "FeatureUnions$Reasons" 52 (my q_Clo_thereStage) := Or.inl (wt2 236 rfl rfl)
theorem lm_Reas_62 : LM "FeatureUnions$Reasons" 62 (my q_Clo_liveStage) := Or.inl (wt3 1 rfl rfl)
theorem lm_Reas_69 : LM "FeatureUnions$Reasons" 69 (my q_Users_farSide) := Or.inl (wt3 2 rfl rfl)
theorem lm_Reas_74 : LM "FeatureUnions$Reasons" 74 (my q_Snap_isAskedBy) := Or.inl (wt3 3 rfl rfl)
theorem lm_Reas_78 : LM "FeatureUnions$Reasons" 78 (my q_Snap_isDefaultFor) := Or.inl (wt3 4 rfl rfl)
theorem lm_Reas_96 : LM "FeatureUnions$Reasons" 96 (my q_Clo_onStage) := Or.inl (wt3 9 rfl rfl)
theorem lm_Reas_105 : LM "FeatureUnions$Reasons" 105 (my q_Snap_counts) := Or.inl (wt3 10 rfl rfl)
theorem lm_Snap_79 : LM "FeatureUnions$Snapshot" 79 (my q_FU_bit) := Or.inr ⟨_, wn2 151 rfl rfl⟩
theorem lm_Users_38 : LM "FeatureUnions$Users" 38 (my q_FU_within) := Or.inr ⟨_, wn2 97 rfl rfl⟩
theorem lm_Law_9 : LM "FeatureUnionsLaw" 9 (my q_FU_init) := Or.inl (wt1 13 rfl rfl)
theorem lm_Law_12 : LM "FeatureUnionsLaw" 12 (my q_Mod_init) := Or.inl (wt3 45 rfl rfl)
theorem lm_Law_13 : LM "FeatureUnionsLaw" 13 (my q_FU_pack) := Or.inl (wt2 38 rfl rfl)
theorem lm_Law_17 : LM "FeatureUnionsLaw" 17 (my q_Mod_pack) := Or.inl (wt3 188 rfl rfl)
theorem lm_Law_18 : LM "FeatureUnionsLaw" 18 (my q_FU_feature) := Or.inl (wt2 46 rfl rfl)
theorem lm_Law_22 : LM "FeatureUnionsLaw" 22 (my q_Mod_feature) := Or.inl (wt3 192 rfl rfl)
theorem lm_Law_23 : LM "FeatureUnionsLaw" 23 (my q_FU_root) := Or.inl (wt2 70 rfl rfl)
theorem lm_Law_27 : LM "FeatureUnionsLaw" 27 (my q_Mod_root) := Or.inl (wt3 208 rfl rfl)
theorem lm_Law_28 : LM "FeatureUnionsLaw" 28 (my q_FU_user) := Or.inl (wt2 81 rfl rfl)
theorem lm_Law_32 : LM "FeatureUnionsLaw" 32 (my q_Mod_user) := Or.inl (wt3 212 rfl rfl)
theorem lm_Law_33 : LM "FeatureUnionsLaw" 33 (my q_FU_asks) := Or.inl (wt2 89 rfl rfl)
theorem lm_Law_37 : LM "FeatureUnionsLaw" 37 (my q_Mod_asks) := Or.inl (wt3 216 rfl rfl)
theorem lm_Law_38 : LM "FeatureUnionsLaw" 38 (my q_FU_turn) := Or.inl (wt2 98 rfl rfl)
theorem lm_Law_42 : LM "FeatureUnionsLaw" 42 (my q_Mod_turn) := Or.inl (wt3 228 rfl rfl)
theorem lm_Law_43 : LM "FeatureUnionsLaw" 43 (my q_FU_run) := Or.inl (wt2 111 rfl rfl)
theorem lm_Law_47 : LM "FeatureUnionsLaw" 47 (my q_Mod_run) := Or.inl (wt3 236 rfl rfl)
theorem lm_Law_48 : LM "FeatureUnionsLaw" 48 (my q_FU_there) := Or.inl (wt2 203 rfl rfl)
theorem lm_Law_51 : LM "FeatureUnionsLaw" 51 (my q_Mod_there) := Or.inl (wt4 39 rfl rfl)
theorem lm_Law_52 : LM "FeatureUnionsLaw" 52 (my q_FU_live) := Or.inl (wt2 208 rfl rfl)
theorem lm_Law_55 : LM "FeatureUnionsLaw" 55 (my q_Mod_live) := Or.inl (wt4 46 rfl rfl)
theorem lm_Law_56 : LM "FeatureUnionsLaw" 56 (my q_FU_on) := Or.inl (wt2 213 rfl rfl)
theorem lm_Law_59 : LM "FeatureUnionsLaw" 59 (my q_Mod_on) := Or.inl (wt4 50 rfl rfl)
theorem lm_Law_60 : LM "FeatureUnionsLaw" 60 (my q_FU_reasons) := Or.inl (wt2 218 rfl rfl)
theorem lm_Law_63 : LM "FeatureUnionsLaw" 63 (my q_Mod_reasons) := Or.inl (wt4 54 rfl rfl)
theorem lm_Law_64 : LM "FeatureUnionsLaw" 64 (my q_FU_reason) := Or.inl (wt3 15 rfl rfl)
theorem lm_Law_67 : LM "FeatureUnionsLaw" 67 (my q_Mod_reason) := Or.inl (wt4 62 rfl rfl)
theorem lm_Law_68 : LM "FeatureUnionsLaw" 68 (my q_FU_clash) := Or.inl (wt3 23 rfl rfl)
theorem lm_Law_71 : LM "FeatureUnionsLaw" 71 (my q_Mod_clash) := Or.inl (wt4 66 rfl rfl)
theorem lm_Law_72 : LM "FeatureUnionsLaw" 72 (my q_FU_without) := Or.inl (wt3 31 rfl rfl)
theorem lm_Law_75 : LM "FeatureUnionsLaw" 75 (my q_Mod_without) := Or.inl (wt4 70 rfl rfl)
theorem lm_Law_76 : LM "FeatureUnionsLaw" 76 (my q_FU_left) := Or.inl (wt3 39 rfl rfl)
theorem lm_Law_79 : LM "FeatureUnionsLaw" 79 (my q_Mod_left) := Or.inl (wt4 74 rfl rfl)
theorem lm_Mod_118 : LM "FeatureUnionsModel" 118 (my q_Mod_isPack) := Or.inl (wt3 196 rfl rfl)
theorem lm_Mod_122 : LM "FeatureUnionsModel" 122 (my q_Mod_many) := Or.inl (wt3 200 rfl rfl)
theorem lm_Mod_126 : LM "FeatureUnionsModel" 126 (my q_Mod_named) := Or.inl (wt3 204 rfl rfl)
theorem lm_Mod_130 : LM "FeatureUnionsModel" 130 (my q_Mod_isUser) := Or.inl (wt3 220 rfl rfl)
theorem lm_Mod_136 : LM "FeatureUnionsModel" 136 (my q_Mod_asking) := Or.inl (wt3 224 rfl rfl)
theorem lm_Mod_140 : LM "FeatureUnionsModel" 140 (my q_Mod_isFeature) := Or.inl (wt3 232 rfl rfl)
theorem lm_Mod_152 : LM "FeatureUnionsModel" 152 (my q_Mod_isFor) := Or.inl (wt4 8 rfl rfl)
theorem lm_Mod_155 : LM "FeatureUnionsModel" 155 (my q_Mod_farSide) := Or.inl (wt4 12 rfl rfl)
theorem lm_Mod_158 : LM "FeatureUnionsModel" 158 (my q_Mod_came) := Or.inl (wt4 16 rfl rfl)
theorem lm_Mod_168 : LM "FeatureUnionsModel" 168 (my q_Mod_tell) := Or.inl (wt4 31 rfl rfl)
theorem lm_Mod_175 : LM "FeatureUnionsModel" 175 (my q_Mod_turnsOn) := Or.inl (wt4 35 rfl rfl)
theorem lm_Mod_179 : LM "FeatureUnionsModel" 179 (my q_Mod_gather) := Or.inl (wt4 27 rfl rfl)
theorem lm_Mod_186 : LM "FeatureUnionsModel" 186 (my q_Mod_comesThere) := Or.inl (wt4 4 rfl rfl)
theorem lm_Mod_190 : LM "FeatureUnionsModel" 190 (my q_Mod_comesLive) := Or.inl (wt4 19 rfl rfl)
theorem lm_Mod_196 : LM "FeatureUnionsModel" 196 (my q_Mod_comesOn) := Or.inl (wt4 23 rfl rfl)
theorem lm_Mod_202 : LM "FeatureUnionsModel" 202 (my q_Mod_close) := Or.inl (wt4 0 rfl rfl)
theorem lm_Mod_206 : LM "FeatureUnionsModel" 206 (my q_Mod_isSide) := Or.inl (wt4 43 rfl rfl)
theorem lm_Mod_209 : LM "FeatureUnionsModel" 209 (my q_Mod_reasoned) := Or.inl (wt4 58 rfl rfl)
theorem oi_FU_3 : Cond.methodLink "FeatureUnions" 3 objectInit ∈ Wt := wt1 16 rfl rfl
theorem oi_Clo_3 : Cond.methodLink "FeatureUnions$Closure" 3 objectInit ∈ Wt := wt1 217 rfl rfl
theorem oi_Feats_3 : Cond.methodLink "FeatureUnions$Features" 3 objectInit ∈ Wt := wt1 51 rfl rfl
theorem oi_Packs_3 : Cond.methodLink "FeatureUnions$Packs" 3 objectInit ∈ Wt := wt1 24 rfl rfl
theorem oi_Reas_3 : Cond.methodLink "FeatureUnions$Reasons" 3 objectInit ∈ Wt := wt1 236 rfl rfl
theorem oi_Snap_3 : Cond.methodLink "FeatureUnions$Snapshot" 3 objectInit ∈ Wt := wt1 158 rfl rfl
theorem oi_Turns_3 : Cond.methodLink "FeatureUnions$Turns" 3 objectInit ∈ Wt := wt1 126 rfl rfl
theorem oi_Users_3 : Cond.methodLink "FeatureUnions$Users" 3 objectInit ∈ Wt := wt1 82 rfl rfl
theorem oi_Mod_1 : Cond.methodLink "FeatureUnionsModel" 1 objectInit ∈ Wt := wt3 48 rfl rfl
theorem oi_ins : Cond.instanceMethod objectInit ∈ Wt := wt1 17 rfl rfl
theorem oi_code : Cond.code objectInit ⟨#[0xb1]⟩ 1 none ∈ Wt := wt1 18 rfl rfl
theorem aw_int : Cond.arrayClass .int ∈ Wt := wt1 76 rfl rfl
theorem aw_boolean : Cond.arrayClass .boolean ∈ Wt := wt1 45 rfl rfl
theorem nk_FU_9 : NK "FeatureUnions" 9 1 4 [vi 0, vi 0, vi 0, vn] := ⟨_, _, ty_Packs, rfl, uw_Packs, to_Packs, wt1 19 rfl rfl, wt1 20 rfl rfl, wt1 2 rfl rfl, fun b ad j hj => nd_Packs b ad j hj⟩
theorem nk_FU_16 : NK "FeatureUnions" 16 2 5 [vi 0, vn, vn, vn, vn] := ⟨_, _, ty_Feats, rfl, uw_Feats, to_Feats, wt1 46 rfl rfl, wt1 47 rfl rfl, wt1 3 rfl rfl, fun b ad j hj => nd_Feats b ad j hj⟩
theorem nk_FU_23 : NK "FeatureUnions" 23 3 8 [vi 0, vn, vn, vn, vn, vn, vn, vn] := ⟨_, _, ty_Users, rfl, uw_Users, to_Users, wt1 77 rfl rfl, wt1 78 rfl rfl, wt1 4 rfl rfl, fun b ad j hj => nd_Users b ad j hj⟩
theorem nk_FU_30 : NK "FeatureUnions" 30 4 5 [vi 0, vn, vn, vn, vn] := ⟨_, _, ty_Turns, rfl, uw_Turns, to_Turns, wt1 121 rfl rfl, wt1 122 rfl rfl, wt1 5 rfl rfl, fun b ad j hj => nd_Turns b ad j hj⟩
theorem nk_FU_37 : NK "FeatureUnions" 37 5 12 [vn, vn, vn, vn, vi 0, vi 0, vi 0, vi 0, vi 0, vi 0, vi 0, vn] := ⟨_, _, ty_Snap, rfl, uw_Snap, to_Snap, wt1 153 rfl rfl, wt1 154 rfl rfl, wt1 6 rfl rfl, fun b ad j hj => nd_Snap b ad j hj⟩
theorem nk_FU_46 : NK "FeatureUnions" 46 6 4 [vn, vn, vn, vi 0] := ⟨_, _, ty_Clo, rfl, uw_Clo, to_Clo, wt1 212 rfl rfl, wt1 213 rfl rfl, wt1 7 rfl rfl, fun b ad j hj => nd_Clo b ad j hj⟩
theorem nk_FU_58 : NK "FeatureUnions" 58 7 2 [vn, vn] := ⟨_, _, ty_Reas, rfl, uw_Reas, to_Reas, wt1 231 rfl rfl, wt1 232 rfl rfl, wt1 8 rfl rfl, fun b ad j hj => nd_Reas b ad j hj⟩
theorem nk_Law_7 : NK "FeatureUnionsLaw" 7 0 11 [vn, vn, vn, vn, vn, vn, vn, vn, vn, vi 0, vi 0] := ⟨_, _, ty_FU, rfl, uw_FU, to_FU, wt1 11 rfl rfl, wt1 12 rfl rfl, wt1 1 rfl rfl, fun b ad j hj => nd_FU b ad j hj⟩
theorem nk_Law_10 : NK "FeatureUnionsLaw" 10 8 46 [vi 0, vi 0, vi 0, vi 0, vi 0, vi 0, vn, vn, vn, vn, vn, vn, vn, vn, vn, vn, vn, vn, vn, vn, vn, vn, vn, vn, vn, vi 0, vi 0, vi 0, vi 0, vi 0, vi 0, vn, vi 0, vi 0, vn, vn, vn, vn, vn, vn, vi 0, vn, vi 0, vn, vn, vi 0] := ⟨_, _, ty_Mod, rfl, uw_Mod, to_Mod, wt3 43 rfl rfl, wt3 44 rfl rfl, wt1 9 rfl rfl, fun b ad j hj => nd_Mod b ad j hj⟩
theorem ac_Snap_70 : Cond.methodLink "FeatureUnions$Snapshot" 70 arraycopyName ∈ Wt := wt2 119 rfl rfl
theorem ac_nat : Cond.native arraycopyName ∈ Wt := wt2 121 rfl rfl
theorem ac_sta : Cond.static arraycopyName ∈ Wt := wt2 120 rfl rfl
theorem ac_ini : Cond.initialized "java/lang/System" ∈ Wt := wt1 10 rfl rfl
end
