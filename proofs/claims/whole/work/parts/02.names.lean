def R_FU : String := "FeatureUnions"
def F_FU : u_T := fun k => match k with
  | 0 => ("FeatureUnions", "packs", "LFeatureUnions$Packs;", true)
  | 1 => ("FeatureUnions", "features", "LFeatureUnions$Features;", true)
  | 2 => ("FeatureUnions", "users", "LFeatureUnions$Users;", true)
  | 3 => ("FeatureUnions", "turns", "LFeatureUnions$Turns;", true)
  | 4 => ("FeatureUnions", "snapshot", "LFeatureUnions$Snapshot;", true)
  | 5 => ("FeatureUnions", "latest", "LFeatureUnions$Closure;", true)
  | 6 => ("FeatureUnions", "trial", "LFeatureUnions$Closure;", true)
  | 7 => ("FeatureUnions", "grounds", "LFeatureUnions$Reasons;", true)
  | 8 => ("FeatureUnions", "leavers", "[I", true)
  | 9 => ("FeatureUnions", "leaverCount", "I", false)
  | _ => ("FeatureUnions", "current", "Z", false)
def ty_FU : Nat → FieldType := fun k => match k with
  | 0 => .object "FeatureUnions$Packs"
  | 1 => .object "FeatureUnions$Features"
  | 2 => .object "FeatureUnions$Users"
  | 3 => .object "FeatureUnions$Turns"
  | 4 => .object "FeatureUnions$Snapshot"
  | 5 => .object "FeatureUnions$Closure"
  | 6 => .object "FeatureUnions$Closure"
  | 7 => .object "FeatureUnions$Reasons"
  | 8 => .array .int
  | 9 => .int
  | _ => .boolean
def R_Packs : String := "FeatureUnions$Packs"
def F_Packs : u_T := fun k => match k with
  | 0 => ("FeatureUnions$Packs", "count", "I", false)
  | 1 => ("FeatureUnions$Packs", "roots", "I", false)
  | 2 => ("FeatureUnions$Packs", "rootsWithDefaults", "I", false)
  | _ => ("FeatureUnions$Packs", "apart", "[Z", true)
def ty_Packs : Nat → FieldType := fun k => match k with
  | 0 => .int
  | 1 => .int
  | 2 => .int
  | _ => .array .boolean
def R_Feats : String := "FeatureUnions$Features"
def F_Feats : u_T := fun k => match k with
  | 0 => ("FeatureUnions$Features", "count", "I", false)
  | 1 => ("FeatureUnions$Features", "pack", "[I", true)
  | 2 => ("FeatureUnions$Features", "name", "[I", true)
  | 3 => ("FeatureUnions$Features", "group", "[I", true)
  | _ => ("FeatureUnions$Features", "byDefault", "[Z", true)
def ty_Feats : Nat → FieldType := fun k => match k with
  | 0 => .int
  | 1 => .array .int
  | 2 => .array .int
  | 3 => .array .int
  | _ => .array .boolean
def R_Users : String := "FeatureUnions$Users"
def F_Users : u_T := fun k => match k with
  | 0 => ("FeatureUnions$Users", "count", "I", false)
  | 1 => ("FeatureUnions$Users", "from", "[I", true)
  | 2 => ("FeatureUnions$Users", "to", "[I", true)
  | 3 => ("FeatureUnions$Users", "platforms", "[I", true)
  | 4 => ("FeatureUnions$Users", "asked", "[I", true)
  | 5 => ("FeatureUnions$Users", "defaults", "[Z", true)
  | 6 => ("FeatureUnions$Users", "build", "[Z", true)
  | _ => ("FeatureUnions$Users", "optional", "[Z", true)
def ty_Users : Nat → FieldType := fun k => match k with
  | 0 => .int
  | 1 => .array .int
  | 2 => .array .int
  | 3 => .array .int
  | 4 => .array .int
  | 5 => .array .boolean
  | 6 => .array .boolean
  | _ => .array .boolean
def R_Turns : String := "FeatureUnions$Turns"
def F_Turns : u_T := fun k => match k with
  | 0 => ("FeatureUnions$Turns", "count", "I", false)
  | 1 => ("FeatureUnions$Turns", "feature", "[I", true)
  | 2 => ("FeatureUnions$Turns", "kind", "[I", true)
  | 3 => ("FeatureUnions$Turns", "user", "[I", true)
  | _ => ("FeatureUnions$Turns", "target", "[I", true)
def ty_Turns : Nat → FieldType := fun k => match k with
  | 0 => .int
  | 1 => .array .int
  | 2 => .array .int
  | 3 => .array .int
  | _ => .array .int
def R_Snap : String := "FeatureUnions$Snapshot"
def F_Snap : u_T := fun k => match k with
  | 0 => ("FeatureUnions$Snapshot", "packs", "LFeatureUnions$Packs;", true)
  | 1 => ("FeatureUnions$Snapshot", "features", "LFeatureUnions$Features;", true)
  | 2 => ("FeatureUnions$Snapshot", "users", "LFeatureUnions$Users;", true)
  | 3 => ("FeatureUnions$Snapshot", "turns", "LFeatureUnions$Turns;", true)
  | 4 => ("FeatureUnions$Snapshot", "platform", "I", false)
  | 5 => ("FeatureUnions$Snapshot", "roots", "I", false)
  | 6 => ("FeatureUnions$Snapshot", "rootsWithDefaults", "I", false)
  | 7 => ("FeatureUnions$Snapshot", "packCount", "I", false)
  | 8 => ("FeatureUnions$Snapshot", "featureCount", "I", false)
  | 9 => ("FeatureUnions$Snapshot", "userCount", "I", false)
  | 10 => ("FeatureUnions$Snapshot", "turnCount", "I", false)
  | _ => ("FeatureUnions$Snapshot", "asked", "[I", true)
def ty_Snap : Nat → FieldType := fun k => match k with
  | 0 => .object "FeatureUnions$Packs"
  | 1 => .object "FeatureUnions$Features"
  | 2 => .object "FeatureUnions$Users"
  | 3 => .object "FeatureUnions$Turns"
  | 4 => .int
  | 5 => .int
  | 6 => .int
  | 7 => .int
  | 8 => .int
  | 9 => .int
  | 10 => .int
  | _ => .array .int
def R_Clo : String := "FeatureUnions$Closure"
def F_Clo : u_T := fun k => match k with
  | 0 => ("FeatureUnions$Closure", "seen", "LFeatureUnions$Snapshot;", true)
  | 1 => ("FeatureUnions$Closure", "stage", "[I", true)
  | 2 => ("FeatureUnions$Closure", "queue", "[I", true)
  | _ => ("FeatureUnions$Closure", "queued", "I", false)
def ty_Clo : Nat → FieldType := fun k => match k with
  | 0 => .object "FeatureUnions$Snapshot"
  | 1 => .array .int
  | 2 => .array .int
  | _ => .int
def R_Reas : String := "FeatureUnions$Reasons"
def F_Reas : u_T := fun k => match k with
  | 0 => ("FeatureUnions$Reasons", "seen", "LFeatureUnions$Snapshot;", true)
  | _ => ("FeatureUnions$Reasons", "closure", "LFeatureUnions$Closure;", true)
def ty_Reas : Nat → FieldType := fun k => match k with
  | 0 => .object "FeatureUnions$Snapshot"
  | _ => .object "FeatureUnions$Closure"
def R_Mod : String := "FeatureUnionsModel"
def F_Mod : u_T := fun k => match k with
  | 0 => ("FeatureUnionsModel", "code", "I", false)
  | 1 => ("FeatureUnionsModel", "packs", "I", false)
  | 2 => ("FeatureUnionsModel", "features", "I", false)
  | 3 => ("FeatureUnionsModel", "users", "I", false)
  | 4 => ("FeatureUnionsModel", "asks", "I", false)
  | 5 => ("FeatureUnionsModel", "rows", "I", false)
  | 6 => ("FeatureUnionsModel", "apart", "[Z", true)
  | 7 => ("FeatureUnionsModel", "root", "[Z", true)
  | 8 => ("FeatureUnionsModel", "rootDefaults", "[Z", true)
  | 9 => ("FeatureUnionsModel", "featurePack", "[I", true)
  | 10 => ("FeatureUnionsModel", "featureName", "[I", true)
  | 11 => ("FeatureUnionsModel", "featureGroup", "[I", true)
  | 12 => ("FeatureUnionsModel", "byDefault", "[Z", true)
  | 13 => ("FeatureUnionsModel", "from", "[I", true)
  | 14 => ("FeatureUnionsModel", "to", "[I", true)
  | 15 => ("FeatureUnionsModel", "platforms", "[I", true)
  | 16 => ("FeatureUnionsModel", "defaults", "[Z", true)
  | 17 => ("FeatureUnionsModel", "build", "[Z", true)
  | 18 => ("FeatureUnionsModel", "optional", "[Z", true)
  | 19 => ("FeatureUnionsModel", "askUser", "[I", true)
  | 20 => ("FeatureUnionsModel", "askFeature", "[I", true)
  | 21 => ("FeatureUnionsModel", "rowFeature", "[I", true)
  | 22 => ("FeatureUnionsModel", "rowKind", "[I", true)
  | 23 => ("FeatureUnionsModel", "rowUser", "[I", true)
  | 24 => ("FeatureUnionsModel", "rowOther", "[I", true)
  | 25 => ("FeatureUnionsModel", "thenPacks", "I", false)
  | 26 => ("FeatureUnionsModel", "thenFeatures", "I", false)
  | 27 => ("FeatureUnionsModel", "thenUsers", "I", false)
  | 28 => ("FeatureUnionsModel", "thenAsks", "I", false)
  | 29 => ("FeatureUnionsModel", "thenRows", "I", false)
  | 30 => ("FeatureUnionsModel", "platform", "I", false)
  | 31 => ("FeatureUnionsModel", "thenRoot", "[Z", true)
  | 32 => ("FeatureUnionsModel", "ran", "Z", false)
  | 33 => ("FeatureUnionsModel", "since", "Z", false)
  | 34 => ("FeatureUnionsModel", "there", "[I", true)
  | 35 => ("FeatureUnionsModel", "live", "[I", true)
  | 36 => ("FeatureUnionsModel", "on", "[I", true)
  | 37 => ("FeatureUnionsModel", "ranThere", "[I", true)
  | 38 => ("FeatureUnionsModel", "ranLive", "[I", true)
  | 39 => ("FeatureUnionsModel", "ranOn", "[I", true)
  | 40 => ("FeatureUnionsModel", "out", "I", false)
  | 41 => ("FeatureUnionsModel", "left", "[I", true)
  | 42 => ("FeatureUnionsModel", "lefts", "I", false)
  | 43 => ("FeatureUnionsModel", "reasonKind", "[I", true)
  | 44 => ("FeatureUnionsModel", "reasonNumber", "[I", true)
  | _ => ("FeatureUnionsModel", "reasonMany", "I", false)
def ty_Mod : Nat → FieldType := fun k => match k with
  | 0 => .int
  | 1 => .int
  | 2 => .int
  | 3 => .int
  | 4 => .int
  | 5 => .int
  | 6 => .array .boolean
  | 7 => .array .boolean
  | 8 => .array .boolean
  | 9 => .array .int
  | 10 => .array .int
  | 11 => .array .int
  | 12 => .array .boolean
  | 13 => .array .int
  | 14 => .array .int
  | 15 => .array .int
  | 16 => .array .boolean
  | 17 => .array .boolean
  | 18 => .array .boolean
  | 19 => .array .int
  | 20 => .array .int
  | 21 => .array .int
  | 22 => .array .int
  | 23 => .array .int
  | 24 => .array .int
  | 25 => .int
  | 26 => .int
  | 27 => .int
  | 28 => .int
  | 29 => .int
  | 30 => .int
  | 31 => .array .boolean
  | 32 => .boolean
  | 33 => .boolean
  | 34 => .array .int
  | 35 => .array .int
  | 36 => .array .int
  | 37 => .array .int
  | 38 => .array .int
  | 39 => .array .int
  | 40 => .int
  | 41 => .array .int
  | 42 => .int
  | 43 => .array .int
  | 44 => .array .int
  | _ => .int
abbrev vwCl : List vw_C := [(R_FU, F_FU, 11), (R_Packs, F_Packs, 4), (R_Feats, F_Feats, 5), (R_Users, F_Users, 8), (R_Turns, F_Turns, 5), (R_Snap, F_Snap, 12), (R_Clo, F_Clo, 4), (R_Reas, F_Reas, 2), (R_Mod, F_Mod, 46)]
theorem nm_FU : ∀ a, a < 11 → ∀ b, b < 11 → a ≠ b → (F_FU a).2.1 ≠ (F_FU b).2.1 := by decide +kernel
theorem to_FU : ∀ k, k < 11 → parseFieldDescriptor (F_FU k).2.2.1 = some (ty_FU k) := by decide +kernel
theorem nm_Packs : ∀ a, a < 4 → ∀ b, b < 4 → a ≠ b → (F_Packs a).2.1 ≠ (F_Packs b).2.1 := by decide +kernel
theorem to_Packs : ∀ k, k < 4 → parseFieldDescriptor (F_Packs k).2.2.1 = some (ty_Packs k) := by decide +kernel
theorem nm_Feats : ∀ a, a < 5 → ∀ b, b < 5 → a ≠ b → (F_Feats a).2.1 ≠ (F_Feats b).2.1 := by decide +kernel
theorem to_Feats : ∀ k, k < 5 → parseFieldDescriptor (F_Feats k).2.2.1 = some (ty_Feats k) := by decide +kernel
theorem nm_Users : ∀ a, a < 8 → ∀ b, b < 8 → a ≠ b → (F_Users a).2.1 ≠ (F_Users b).2.1 := by decide +kernel
theorem to_Users : ∀ k, k < 8 → parseFieldDescriptor (F_Users k).2.2.1 = some (ty_Users k) := by decide +kernel
theorem nm_Turns : ∀ a, a < 5 → ∀ b, b < 5 → a ≠ b → (F_Turns a).2.1 ≠ (F_Turns b).2.1 := by decide +kernel
theorem to_Turns : ∀ k, k < 5 → parseFieldDescriptor (F_Turns k).2.2.1 = some (ty_Turns k) := by decide +kernel
theorem nm_Snap : ∀ a, a < 12 → ∀ b, b < 12 → a ≠ b → (F_Snap a).2.1 ≠ (F_Snap b).2.1 := by decide +kernel
theorem to_Snap : ∀ k, k < 12 → parseFieldDescriptor (F_Snap k).2.2.1 = some (ty_Snap k) := by decide +kernel
theorem nm_Clo : ∀ a, a < 4 → ∀ b, b < 4 → a ≠ b → (F_Clo a).2.1 ≠ (F_Clo b).2.1 := by decide +kernel
theorem to_Clo : ∀ k, k < 4 → parseFieldDescriptor (F_Clo k).2.2.1 = some (ty_Clo k) := by decide +kernel
theorem nm_Reas : ∀ a, a < 2 → ∀ b, b < 2 → a ≠ b → (F_Reas a).2.1 ≠ (F_Reas b).2.1 := by decide +kernel
theorem to_Reas : ∀ k, k < 2 → parseFieldDescriptor (F_Reas k).2.2.1 = some (ty_Reas k) := by decide +kernel
theorem nm_Mod : ∀ a, a < 46 → ∀ b, b < 46 → a ≠ b → (F_Mod a).2.1 ≠ (F_Mod b).2.1 := by decide +kernel
theorem to_Mod : ∀ k, k < 46 → parseFieldDescriptor (F_Mod k).2.2.1 = some (ty_Mod k) := by decide +kernel
