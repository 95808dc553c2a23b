/-! the reference's cells: 31 its object, 32 to 60 its arrays -/
def TR (t : Dt) (s : Sg) : Prop :=
  (s 31 1 = nI (t 0 0) ∧ s 31 2 = nI (t 4 0) ∧ s 31 3 = nI (t 8 0) ∧ s 31 4 = nI (t 24 0) ∧ s 31 5 = nI (t 16 0)) ∧
  (∀ p, p < t 0 0 → s 32 p = nI (t 3 p)) ∧
  (∀ p, p < 10 → s 33 p = (if t 1 p = 1 then 1 else 0) ∧ s 34 p = (if t 2 p = 1 then 1 else 0)) ∧
  (∀ f, f < t 4 0 → s 35 f = nI (t 5 f) ∧ s 36 f = nI (t 6 f) ∧ s 37 f = nI (t 21 f) ∧ s 38 f = nI (t 7 f)) ∧
  (∀ u, u < t 8 0 → s 39 u = nI (t 9 u) ∧ s 40 u = nI (t 10 u) ∧ s 42 u = nI (t 11 u) ∧ s 43 u = nI (t 12 u) ∧ s 44 u = nI (t 13 u) ∧ ∀ b, b < 8 → bt (s 41 u) b = decide (t 14 (8 * u + b) = 1)) ∧
  (∀ k, k < t 24 0 → s 45 k = nI (t 22 k) ∧ s 46 k = nI (t 23 k)) ∧
  (∀ r, r < t 16 0 → s 47 r = nI (t 17 r) ∧ s 48 r = nI (t 18 r) ∧ (t 18 r ≠ 0 → s 49 r = nI (t 19 r)) ∧ (t 18 r = 0 → s 49 r = -1) ∧ (t 18 r ≠ 1 → s 50 r = nI (t 20 r)) ∧ (t 18 r = 1 → s 50 r = -1))
def SR (d : Dt) (s : Sg) : Prop :=
  (s 31 25 = nI (d 0 0) ∧ s 31 26 = nI (d 4 0) ∧ s 31 27 = nI (d 8 0) ∧ s 31 28 = nI (d 24 0) ∧ s 31 29 = nI (d 16 0) ∧ s 31 30 = nI (d 25 0)) ∧ (∀ p, p < 10 → s 51 p = (if d 1 p = 1 then 1 else 0))
def RCu (cur : Bool) (s : Sg) : Prop := (s 31 32 = 0 ∧ cur = false) ∨ (s 31 32 = 1 ∧ ((s 31 33 = 0 ∧ cur = true) ∨ (s 31 33 = 1 ∧ cur = false)))
def RR (t d : Dt) (cur : Bool) (lv : List Nat) (s : Sg) : Prop :=
  TR t s ∧ SR d s ∧ ((∀ k, k < 20 → s 55 k = nI (stg d k)) ∧ (∀ k, k < 80 → s 56 k = nI (stg d (20 + k))) ∧ (∀ k, k < 120 → s 57 k = nI (stg d (100 + k)))) ∧ RCu cur s ∧ (s 31 42 = nI lv.length ∧ ∀ i v, lv[i]? = some v → s 58 i = nI v) ∧ s 31 40 = -1
/-- all that closing reads of the reference's cells; e: the rules' numbers -/
def ER (e : Dt) (s : Sg) : Prop :=
  (s 31 25 = nI (e 0 0) ∧ s 31 26 = nI (e 4 0) ∧ s 31 27 = nI (e 8 0) ∧ s 31 28 = nI (e 24 0) ∧ s 31 29 = nI (e 16 0) ∧ s 31 30 = nI (e 25 0)) ∧
  (∀ p, p < 10 → s 51 p = (if e 1 p = 1 then 1 else 0) ∧ (e 1 p = 1 → s 34 p = (if e 2 p = 1 then 1 else 0)) ∧ (e 2 p = 1 → e 1 p = 1)) ∧
  (∀ p, p < e 0 0 → s 32 p = nI (e 3 p)) ∧ (∀ f, f < e 4 0 → s 35 f = nI (e 5 f) ∧ s 38 f = nI (e 7 f)) ∧
  (∀ u, u < e 8 0 → s 39 u = nI (e 9 u) ∧ s 40 u = nI (e 10 u) ∧ s 42 u = nI (e 11 u) ∧ s 43 u = nI (e 12 u) ∧ s 44 u = nI (e 13 u) ∧ bt (s 41 u) (e 25 0) = decide (e 14 u = 1)) ∧
  (∀ r, r < e 16 0 → s 47 r = nI (e 17 r) ∧ s 48 r = nI (e 18 r) ∧ (e 18 r ≠ 0 → s 49 r = nI (e 19 r)) ∧ (e 18 r = 0 → s 49 r = -1) ∧ (e 18 r ≠ 1 → s 50 r = nI (e 20 r)) ∧ (e 18 r = 1 → s 50 r = -1)) ∧
  (e 24 0 ≤ 400 ∧ (∀ k, k < e 24 0 → s 45 k = nI (e 22 k) ∧ s 46 k = nI (e 23 k) ∧ e 22 k < e 8 0 ∧ e 23 k < e 4 0) ∧ (∀ k l, k < e 24 0 → l < e 24 0 → e 22 k = e 22 l → e 23 k = e 23 l → k = l)) ∧
  (∀ u f, u < e 8 0 → f < e 4 0 → ((∃ k, k < e 24 0 ∧ e 22 k = u ∧ e 23 k = f ∧ nI k ≠ s 31 40) ↔ (e 5 f = e 10 u ∧ e 15 (32 * u + e 6 f) = 1)))
/-- what closing leaves as it was -/
def Cf (s s' : Sg) : Prop := (∀ c, c ≠ 31 → c ≠ 52 → c ≠ 53 → c ≠ 54 → c ≠ 59 → c ≠ 60 → s' c = s c) ∧ ∀ k, k ≠ 45 → s' 31 k = s 31 k
theorem Cf.refl (s : Sg) : Cf s s := ⟨fun _ _ _ _ _ _ _ => rfl, fun _ _ => rfl⟩
theorem Cf.trans {s s1 s2 : Sg} (h1 : Cf s s1) (h2 : Cf s1 s2) : Cf s s2 := ⟨fun c a b e f g h => (h2.1 c a b e f g h).trans (h1.1 c a b e f g h), fun k hk => (h2.2 k hk).trans (h1.2 k hk)⟩
theorem ER.fr {e : Dt} {s s' : Sg} (h : ER e s) (hC : Cf s s') : ER e s' := by
  obtain ⟨h1, h2⟩ := hC
  have f (c : Nat) (a : c ≠ 31) (b : c ≠ 52) (g : c ≠ 53) (i : c ≠ 54) (j : c ≠ 59) (k : c ≠ 60) := h1 c a b g i j k
  unfold ER
  rw [h2 25 (by omega), h2 26 (by omega), h2 27 (by omega), h2 28 (by omega), h2 29 (by omega), h2 30 (by omega), h2 40 (by omega),
    f 51 (by omega) (by omega) (by omega) (by omega) (by omega) (by omega), f 34 (by omega) (by omega) (by omega) (by omega) (by omega) (by omega), f 32 (by omega) (by omega) (by omega) (by omega) (by omega) (by omega), f 35 (by omega) (by omega) (by omega) (by omega) (by omega) (by omega), f 38 (by omega) (by omega) (by omega) (by omega) (by omega) (by omega),
    f 39 (by omega) (by omega) (by omega) (by omega) (by omega) (by omega), f 40 (by omega) (by omega) (by omega) (by omega) (by omega) (by omega), f 42 (by omega) (by omega) (by omega) (by omega) (by omega) (by omega), f 43 (by omega) (by omega) (by omega) (by omega) (by omega) (by omega), f 44 (by omega) (by omega) (by omega) (by omega) (by omega) (by omega), f 41 (by omega) (by omega) (by omega) (by omega) (by omega) (by omega),
    f 47 (by omega) (by omega) (by omega) (by omega) (by omega) (by omega), f 48 (by omega) (by omega) (by omega) (by omega) (by omega) (by omega), f 49 (by omega) (by omega) (by omega) (by omega) (by omega) (by omega), f 50 (by omega) (by omega) (by omega) (by omega) (by omega) (by omega), f 45 (by omega) (by omega) (by omega) (by omega) (by omega) (by omega), f 46 (by omega) (by omega) (by omega) (by omega) (by omega) (by omega)]
  exact h
/-- the stages that closing has so far -/
def MRep (st : Nat → Nat) (s : Sg) : Prop := (∀ k, k < 20 → s 52 k = nI (st k)) ∧ (∀ k, k < 80 → s 53 k = nI (st (20 + k))) ∧ (∀ k, k < 120 → s 54 k = nI (st (100 + k))) ∧ ∀ x, st x ≤ 1000
section Ra
variable {t d e : Dt} {s : Sg} {st : Nat → Nat}
theorem came_is {a r : Nat} (ha : a < 2147483648) (hr : r < 2147483648) (s : Sg) : HB (1 ≤ a ∧ a < r) s (f_Mod_came (nI a) (nI r) s) := by
  unfold f_Mod_came
  by_cases h1 : a = 0
  · rw [if_pos (show nI a ≤ 0 from (nI_leI (b := 0) ha (by omega)).mpr (by omega))]
    exact HB.no (fun z => by omega) rfl
  · rw [if_neg (show ¬ nI a ≤ 0 from fun z => h1 (by have := (nI_leI (b := 0) ha (by omega)).mp z; omega))]
    by_cases h2 : a < r
    · rw [if_neg (fun z => by have := (nI_leI hr ha).mp z; omega)]
      exact HB.yes ⟨by omega, h2⟩ rfl
    · rw [if_pos ((nI_leI hr ha).mpr (by omega))]
      exact HB.no (fun z => h2 z.2) rfl
theorem M_isFor (hG : DG e) (h : ER e s) {u : Nat} (hu : u < e 8 0) : HB (e 14 u = 1) s (f_Mod_isFor (nI u) s) := by
  have hU := hG.1.2.2.1
  have hb := (h.2.2.2.2.1 u hu).2.2.2.2.2
  unfold f_Mod_isFor
  rw [if_pos (inb_nI (by omega) (by omega)), ix_nI (by omega), h.1.2.2.2.2.2, bit_is _ (by have := hG.2.2; omega), hb]
  by_cases h1 : e 14 u = 1
  · refine HB.yes h1 ?_
    simp [h1]
  · refine HB.no h1 ?_
    simp [h1]
theorem M_far (hG : DG e) (h : ER e s) {u x : Nat} (hu : u < e 8 0) : f_Mod_farSide (nI u) (nI x) s = some (nI (far e u x), s) := by
  have hU := hG.1.2.2.1
  have h2 := (hG.2.1.2.2 u hu).2.1
  unfold f_Mod_farSide
  rw [if_pos (inb_nI (by omega) (by omega)), ix_nI (by omega), (h.2.2.2.2.1 u hu).2.2.2.1]
  unfold far
  by_cases h1 : e 12 u = 1
  · rw [if_neg (fun z => by have := (nI_l0 (by omega)).mp z; omega), if_pos h1]
    rfl
  · rw [if_pos ((nI_l0 (by omega)).mpr (by omega)), if_neg h1]
theorem M_asking (hG : DG e) (h : ER e s) {u f : Nat} (hu : u < 2147483648) (hf : f < 2147483648) : (∃ k, k < e 24 0 ∧ e 22 k = u ∧ e 23 k = f ∧ f_Mod_asking (nI u) (nI f) (nI (e 24 0)) s = some (nI k, s)) ∨ ((∀ k, k < e 24 0 → ¬ (e 22 k = u ∧ e 23 k = f)) ∧ f_Mod_asking (nI u) (nI f) (nI (e 24 0)) s = some (-1, s)) := by
  obtain ⟨hA, hB, hC⟩ := h.2.2.2.2.2.2.1
  have hU := hG.1.2.2.1
  have hF := hG.1.2.1
  unfold f_Mod_asking f_Mod_asking_6
  refine itr2_run (N := e 24 0) (I := fun k a y s1 => y = nI k ∧ s1 = s ∧ ((∃ j, j < k ∧ e 22 j = u ∧ e 23 j = f ∧ a = nI j) ∨ ((∀ j, j < k → ¬ (e 22 j = u ∧ e 23 j = f)) ∧ a = -1))) (E := fun o => (∃ k, k < e 24 0 ∧ e 22 k = u ∧ e 23 k = f ∧ o = some (nI k, s)) ∨ ((∀ k, k < e 24 0 → ¬ (e 22 k = u ∧ e 23 k = f)) ∧ o = some (-1, s))) ?_ ?_ (e 24 0) 4096 0 _ 0 s (by omega) (by omega) ⟨nI_0.symm, rfl, Or.inr ⟨fun j hj => absurd hj (Nat.not_lt_zero _), rfl⟩⟩
  · rintro rec k a y s1 hk ⟨rfl, rfl, ha⟩
    obtain ⟨b1, b2, b3, b4⟩ := hB k hk
    refine Or.inl ?_
    rw [if_neg (fun z => by have := (nI_leI (by omega) (by omega)).mp z; omega), if_pos (inb_nI (by omega) (by omega)), ix_nI (by omega), b1, b2, ← nI_succ]
    have keep : ¬ (e 22 k = u ∧ e 23 k = f) → ∃ (y1 y2 : Int32) (s' : Sg), (y2 = nI (k + 1) ∧ s' = s1 ∧ ((∃ j, j < k + 1 ∧ e 22 j = u ∧ e 23 j = f ∧ y1 = nI j) ∨ ((∀ j, j < k + 1 → ¬ (e 22 j = u ∧ e 23 j = f)) ∧ y1 = -1))) ∧ rec a (nI (k + 1)) s1 = rec y1 y2 s' := by
      intro hn
      refine ⟨_, _, _, ⟨rfl, rfl, ?_⟩, rfl⟩
      rcases ha with ⟨j, hj, c1, c2, c3⟩ | ⟨c1, c2⟩
      · exact Or.inl ⟨j, by omega, c1, c2, c3⟩
      · refine Or.inr ⟨fun j hj => ?_, c2⟩
        by_cases ej : j = k
        · subst ej; exact hn
        · exact c1 j (by omega)
    by_cases h1 : e 22 k = u
    · rw [if_pos (by rw [h1]), if_pos (inb_nI (by omega) (by omega))]
      by_cases h2 : e 23 k = f
      · rw [if_pos (by rw [h2])]
        exact ⟨_, _, _, ⟨rfl, rfl, Or.inl ⟨k, by omega, h1, h2, rfl⟩⟩, rfl⟩
      · rw [if_neg (fun z => h2 (nI_inj (by omega) hf z))]
        exact keep (fun z => h2 z.2)
    · rw [if_neg (fun z => h1 (nI_inj (by omega) hu z))]
      exact keep (fun z => h1 z.1)
  · rintro rec a y s1 ⟨rfl, rfl, ha⟩
    rw [if_pos ((nI_leI (by omega) (by omega)).mpr (Nat.le_refl _))]
    rcases ha with ⟨j, hj, c1, c2, c3⟩ | ⟨c1, c2⟩
    · exact Or.inl ⟨j, hj, c1, c2, by rw [c3]⟩
    · exact Or.inr ⟨c1, by rw [c2]⟩
end Ra
