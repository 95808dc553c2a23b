/-! the two sides' cells against what was told (t) and what the latest run saw (d) -/
def snapd (t : Dt) (pl : Nat) : Dt := fun c k => if c = 14 then t 14 (8 * k + pl) else if c = 25 then pl else t c k
/-- flags are 0 or 1 -/
def DF (d : Dt) : Prop := (∀ p, p < d 0 0 → d 3 p < 2) ∧ (∀ f, f < d 4 0 → d 7 f < 2 ∧ d 21 f < 8) ∧ (∀ u, u < d 8 0 → d 11 u < 2 ∧ d 12 u < 2 ∧ d 13 u < 2)
def TC (t : Dt) (s : Sg) : Prop :=
  (s 1 0 = nI (t 0 0) ∧ s 3 0 = nI (t 4 0) ∧ s 8 0 = nI (t 8 0) ∧ s 16 0 = nI (t 16 0)) ∧
  (∀ p, p < 10 → bt (s 1 1) p = decide (t 1 p = 1) ∧ bt (s 1 2) p = decide (t 2 p = 1)) ∧
  (∀ p, p < t 0 0 → s 2 p = nI (t 3 p)) ∧
  (∀ f, f < t 4 0 → s 4 f = nI (t 5 f) ∧ s 5 f = nI (t 6 f) ∧ s 6 f = nI (t 21 f) ∧ s 7 f = nI (t 7 f)) ∧
  (∀ u, u < t 8 0 → s 9 u = nI (t 9 u) ∧ s 10 u = nI (t 10 u) ∧ s 13 u = nI (t 11 u) ∧ s 14 u = nI (t 12 u) ∧ s 15 u = nI (t 13 u) ∧ ∀ b, b < 8 → bt (s 11 u) b = decide (t 14 (8 * u + b) = 1)) ∧
  (∀ u n, u < 40 → n < 32 → bt (s 12 u) n = decide (t 15 (32 * u + n) = 1)) ∧
  (∀ r, r < t 16 0 → s 17 r = nI (t 17 r) ∧ s 18 r = nI (t 18 r) ∧ (t 18 r ≠ 0 → s 19 r = nI (t 19 r)) ∧ (t 18 r = 0 → s 19 r = -1) ∧ (t 18 r ≠ 1 → s 20 r = nI (t 20 r)) ∧ (t 18 r = 1 → s 20 r = -1))
def SC (d : Dt) (s : Sg) : Prop :=
  (s 21 4 = nI (d 25 0) ∧ s 21 7 = nI (d 0 0) ∧ s 21 8 = nI (d 4 0) ∧ s 21 9 = nI (d 8 0) ∧ s 21 10 = nI (d 16 0)) ∧
  (∀ p, p < 10 → bt (s 21 5) p = decide (d 1 p = 1) ∧ bt (s 21 6) p = decide (d 2 p = 1)) ∧
  (∀ u n, u < 40 → n < 32 → bt (s 22 u) n = decide (d 15 (32 * u + n) = 1))
/-- all that closing and reasons read -/
def DC (d : Dt) (s : Sg) : Prop :=
  SC d s ∧ (∀ p, p < d 0 0 → s 2 p = nI (d 3 p)) ∧ (∀ f, f < d 4 0 → s 4 f = nI (d 5 f) ∧ s 5 f = nI (d 6 f) ∧ s 7 f = nI (d 7 f)) ∧
  (∀ u, u < d 8 0 → s 9 u = nI (d 9 u) ∧ s 10 u = nI (d 10 u) ∧ s 13 u = nI (d 11 u) ∧ s 14 u = nI (d 12 u) ∧ s 15 u = nI (d 13 u) ∧ bt (s 11 u) (d 25 0) = decide (d 14 u = 1)) ∧
  (∀ r, r < d 16 0 → s 17 r = nI (d 17 r) ∧ s 18 r = nI (d 18 r) ∧ (d 18 r ≠ 0 → s 19 r = nI (d 19 r)) ∧ (d 18 r = 0 → s 19 r = -1) ∧ (d 18 r ≠ 1 → s 20 r = nI (d 20 r)) ∧ (d 18 r = 1 → s 20 r = -1))
/-- what holds of d by itself -/
def DG (d : Dt) : Prop := DOk d ∧ DF d ∧ d 25 0 < 8
/-- the cells that closing reads -/
def rdc (c : Nat) : Prop := c ≤ 22 ∧ c ≠ 0
theorem DC.fr {d : Dt} {s s' : Sg} (h : DC d s) (e : ∀ c, c ≤ 22 → c ≠ 0 → s' c = s c) : DC d s' := by
  have e2 := e 2 (by omega) (by omega)
  have e4 := e 4 (by omega) (by omega)
  have e5 := e 5 (by omega) (by omega)
  have e7 := e 7 (by omega) (by omega)
  have e9 := e 9 (by omega) (by omega)
  have e10 := e 10 (by omega) (by omega)
  have e11 := e 11 (by omega) (by omega)
  have e13 := e 13 (by omega) (by omega)
  have e14 := e 14 (by omega) (by omega)
  have e15 := e 15 (by omega) (by omega)
  have e17 := e 17 (by omega) (by omega)
  have e18 := e 18 (by omega) (by omega)
  have e19 := e 19 (by omega) (by omega)
  have e20 := e 20 (by omega) (by omega)
  have e21 := e 21 (by omega) (by omega)
  have e22 := e 22 (by omega) (by omega)
  unfold DC SC
  rw [e2, e4, e5, e7, e9, e10, e11, e13, e14, e15, e17, e18, e19, e20, e21, e22]
  exact h
theorem hasc (x : Int32) (n : Nat) : (∃ k, k < n ∧ x = nI k) ∨ ∀ k, k < n → x ≠ nI k := by
  rcases Classical.em (∃ k, k < n ∧ x = nI k) with h | h
  · exact Or.inl h
  · exact Or.inr (fun k hk e => h ⟨k, hk, e⟩)
theorem nI_l0 {n : Nat} (h : n < 2147483648) : nI n = 0 ↔ n = 0 := by
  rw [← nI_0]
  exact nI_eq h (by decide)
theorem nI_l1 {n : Nat} (h : n < 2147483648) : nI n = 1 ↔ n = 1 := nI_eq (b := 1) h (by decide)
theorem nI_l2 {n : Nat} (h : n < 2147483648) : nI n = 2 ↔ n = 2 := nI_eq (b := 2) h (by decide)
theorem nI_l3 {n : Nat} (h : n < 2147483648) : nI n = 3 ↔ n = 3 := nI_eq (b := 3) h (by decide)
theorem nI_lk {n : Nat} (k : Nat) (h : n < 2147483648) (hk : k < 2147483648) : nI n = nI k ↔ n = k := nI_eq h hk
theorem nI_m1 {n : Nat} (h : n < 2147483648) : ¬ nI n = -1 := by
  intro e
  have h1 := nI_toInt h
  rw [e] at h1
  have h2 : (-1 : Int32).toInt = -1 := by decide
  omega
theorem within_yes {k n : Nat} (hk : k < n) (hn : n < 2147483648) (s : Sg) : f_FU_within (nI k) (nI n) s = some (1, s) := by
  unfold f_FU_within
  rw [if_neg (nI_pos (by omega)), if_neg (fun h => absurd ((nI_leI hn (by omega)).mp h) (by omega))]
theorem within_no {x : Int32} {n : Nat} (hn : n < 2147483648) (h : ∀ k, k < n → x ≠ nI k) (s : Sg) : f_FU_within x (nI n) s = some (0, s) := by
  unfold f_FU_within
  by_cases h1 : x < 0
  · rw [if_pos h1]
  · rw [if_neg h1]
    by_cases h2 : nI n ≤ x
    · rw [if_pos h2]
    · obtain ⟨k, hk, e⟩ := nI_of_lt hn h1 h2
      exact absurd e (h k hk)
theorem F_bit (x : Int32) {n : Nat} (hn : n < 32) (s : Sg) : f_FU_bit x (nI n) s = some (if bt x n = true then 1 else 0, s) := by
  unfold f_FU_bit
  rw [bit_is x hn]
  cases bt x n <;> rfl
theorem isb_0 : isb 0 = true := rfl
theorem isb_1 : isb 1 = true := rfl
theorem Phas_yes {k n : Nat} {s : Sg} (e : s 1 0 = nI n) (hk : k < n) (hn : n < 2147483648) : f_Packs_has (nI k) s = some (1, s) := by
  unfold f_Packs_has
  rw [e, within_yes hk hn]
  rfl
theorem Phas_no {x : Int32} {n : Nat} {s : Sg} (e : s 1 0 = nI n) (hn : n < 2147483648) (h : ∀ k, k < n → x ≠ nI k) : f_Packs_has x s = some (0, s) := by
  unfold f_Packs_has
  rw [e, within_no hn h]
  rfl
theorem Fhas_yes {k n : Nat} {s : Sg} (e : s 3 0 = nI n) (hk : k < n) (hn : n < 2147483648) : f_Feats_has (nI k) s = some (1, s) := by
  unfold f_Feats_has
  rw [e, within_yes hk hn]
  rfl
theorem Fhas_no {x : Int32} {n : Nat} {s : Sg} (e : s 3 0 = nI n) (hn : n < 2147483648) (h : ∀ k, k < n → x ≠ nI k) : f_Feats_has x s = some (0, s) := by
  unfold f_Feats_has
  rw [e, within_no hn h]
  rfl
theorem Uhas_yes {k n : Nat} {s : Sg} (e : s 8 0 = nI n) (hk : k < n) (hn : n < 2147483648) : f_Users_has (nI k) s = some (1, s) := by
  unfold f_Users_has
  rw [e, within_yes hk hn]
  rfl
theorem Uhas_no {x : Int32} {n : Nat} {s : Sg} (e : s 8 0 = nI n) (hn : n < 2147483648) (h : ∀ k, k < n → x ≠ nI k) : f_Users_has x s = some (0, s) := by
  unfold f_Users_has
  rw [e, within_no hn h]
  rfl
section Rd
variable {d : Dt} {s : Sg}
theorem F_counts (hG : DG d) (h : DC d s) {u : Nat} (hu : u < d 8 0) : f_Snap_counts (nI u) s = some (if d 14 u = 1 then 1 else 0, s) := by
  have hU := hG.1.2.2.1
  unfold f_Snap_counts
  rw [if_pos (inb_nI (by omega) (by omega)), ix_nI (by omega), h.1.1.1, F_bit _ (by have := hG.2.2; omega), (h.2.2.2.1 u hu).2.2.2.2.2]
  by_cases h1 : d 14 u = 1
  · simp [h1, bnd, isb_1]
  · simp [h1, bnd, isb_0]
theorem F_far (hG : DG d) (h : DC d s) {u x : Nat} (hu : u < d 8 0) : f_Users_farSide (nI u) (nI x) s = some (nI (far d u x), s) := by
  have hU := hG.1.2.2.1
  have h2 := (hG.2.1.2.2 u hu).2.1
  unfold f_Users_farSide
  rw [if_pos (inb_nI (by omega) (by omega)), ix_nI (by omega), (h.2.2.2.1 u hu).2.2.2.1]
  unfold far
  by_cases h1 : d 12 u = 1
  · rw [if_neg (fun e => by have := (nI_l0 (by omega)).mp e; omega), if_pos h1]
    rfl
  · rw [if_pos ((nI_l0 (by omega)).mpr (by omega)), if_neg h1]
theorem F_asked (hG : DG d) (h : DC d s) {u f : Nat} (hu : u < d 8 0) (hf : f < d 4 0) : f_Snap_isAskedBy (nI u) (nI f) s = some (if d 5 f = d 10 u ∧ d 15 (32 * u + d 6 f) = 1 then 1 else 0, s) := by
  have hU := hG.1.2.2.1
  have hF := hG.1.2.1
  have hP := hG.1.1
  have h5 := hG.1.2.2.2.2.1 f hf
  have h6 := hG.1.2.2.2.2.2.1 u hu
  unfold f_Snap_isAskedBy
  rw [if_pos (inb_nI (by omega) (by omega)), if_pos (inb_nI (by omega) (by omega)), ix_nI (by omega), ix_nI (by omega), (h.2.2.1 f hf).1, (h.2.2.2.1 u hu).2.1]
  by_cases h1 : d 5 f = d 10 u
  · rw [if_pos (by rw [h1]), if_pos (inb_nI (by omega) (by omega)), if_pos (inb_nI (by omega) (by omega)), (h.2.2.1 f hf).2.1, F_bit _ h5.2, h.1.2.2 u _ (by omega) h5.2]
    by_cases h2 : d 15 (32 * u + d 6 f) = 1
    · simp [h1, h2, bnd]
    · simp [h1, h2, bnd]
  · rw [if_neg (fun e => h1 ((nI_eq (by omega) (by omega)).mp e)), if_neg (fun z => h1 z.1)]
theorem F_dflt (hG : DG d) (h : DC d s) {u f : Nat} (hu : u < d 8 0) (hf : f < d 4 0) : f_Snap_isDefaultFor (nI u) (nI f) s = some (if d 5 f = d 10 u ∧ d 11 u = 1 ∧ d 7 f = 1 then 1 else 0, s) := by
  have hU := hG.1.2.2.1
  have hF := hG.1.2.1
  have hP := hG.1.1
  have h5 := hG.1.2.2.2.2.1 f hf
  have h6 := hG.1.2.2.2.2.2.1 u hu
  have h7 := (hG.2.1.2.1 f hf).1
  have h8 := (hG.2.1.2.2 u hu).1
  unfold f_Snap_isDefaultFor
  rw [if_pos (inb_nI (by omega) (by omega)), if_pos (inb_nI (by omega) (by omega)), ix_nI (by omega), ix_nI (by omega), (h.2.2.1 f hf).1, (h.2.2.2.1 u hu).2.1]
  by_cases h1 : d 5 f = d 10 u
  · rw [if_pos (by rw [h1]), if_pos (inb_nI (by omega) (by omega)), (h.2.2.2.1 u hu).2.2.1]
    by_cases h2 : d 11 u = 1
    · rw [if_neg (fun e => by have := (nI_l0 (by omega)).mp e; omega), if_pos (inb_nI (by omega) (by omega)), (h.2.2.1 f hf).2.2]
      by_cases h3 : d 7 f = 1
      · rw [if_neg (fun e => by have := (nI_l0 (by omega)).mp e; omega), if_pos ⟨h1, h2, h3⟩]
      · rw [if_pos ((nI_l0 (by omega)).mpr (by omega)), if_neg (fun z => h3 z.2.2)]
    · rw [if_pos ((nI_l0 (by omega)).mpr (by omega)), if_neg (fun z => h2 z.2.1)]
  · rw [if_neg (fun e => h1 ((nI_eq (by omega) (by omega)).mp e)), if_neg (fun z => h1 z.1)]
theorem F_rootd (hG : DG d) (h : DC d s) {f : Nat} (hf : f < d 4 0) : f_Snap_isDefaultOfRoot (nI f) s = some (if d 7 f = 1 ∧ d 2 (d 5 f) = 1 then 1 else 0, s) := by
  have hF := hG.1.2.1
  have hP := hG.1.1
  have h5 := hG.1.2.2.2.2.1 f hf
  have h7 := (hG.2.1.2.1 f hf).1
  unfold f_Snap_isDefaultOfRoot
  rw [if_pos (inb_nI (by omega) (by omega)), ix_nI (by omega), (h.2.2.1 f hf).2.2]
  by_cases h3 : d 7 f = 1
  · rw [if_neg (fun e => by have := (nI_l0 (by omega)).mp e; omega), if_pos (inb_nI (by omega) (by omega)), (h.2.2.1 f hf).1, F_bit _ (by omega), (h.1.2.1 (d 5 f) (by omega)).2]
    by_cases h2 : d 2 (d 5 f) = 1
    · simp [h2, h3, bnd]
    · simp [h2, h3, bnd]
  · rw [if_pos ((nI_l0 (by omega)).mpr (by omega)), if_neg (fun z => h3 z.1)]
end Rd
