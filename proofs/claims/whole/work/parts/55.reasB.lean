noncomputable def pb (p : Nat → Prop) : Nat → Bool := fun k => @decide (p k) (Classical.propDecidable _)
theorem pb_iff {p : Nat → Prop} {k : Nat} : pb p k = true ↔ p k := @decide_eq_true_iff (p k) (Classical.propDecidable _)
section ReasB
variable {s : Sg} {q : QS} {d : Dt}
theorem F_countOf (hG : DG d) (hD : DC d s) (hR : CRep 23 s q) {f x : Nat} (hf : f < d 4 0) (hx : x < 2) : f_Reas_countOf (nI f) (nI x) s = some (nI (sel (pb (RsP d (fun y => q.1 y ≠ 0) f x)) 896).length, s) := by
  unfold f_Reas_countOf f_Reas_countOf_5
  refine itr2_run (N := 896) (I := fun k a y s1 => y = nI k ∧ a = nI (sel (pb (RsP d (fun y => q.1 y ≠ 0) f x)) k).length ∧ s1 = s) (E := fun o => o = some (nI (sel (pb (RsP d (fun y => q.1 y ≠ 0) f x)) 896).length, s)) ?_ ?_ 896 4096 0 0 0 s (by omega) (by omega) ⟨nI_0.symm, nI_0.symm, rfl⟩
  · rintro rec k a y s1 hk ⟨rfl, rfl, rfl⟩
    refine Or.inl ?_
    have hh := F_holds hG hD hR hk hf hx
    rw [if_neg (fun e => by have := (nI_leI (a := 896) (by omega) (by omega)).mp e; omega)]
    by_cases hp : RsP d (fun y => q.1 y ≠ 0) f x k
    · rw [hh.1 hp, bnd_some, if_neg (by decide), ← nI_succ, ← nI_succ]
      refine ⟨_, _, _, ⟨rfl, ?_, rfl⟩, rfl⟩
      rw [sel_yes (pb_iff.mpr hp), List.length_append]
      rfl
    · rw [hh.2 hp, bnd_some, if_pos rfl, ← nI_succ]
      refine ⟨_, _, _, ⟨rfl, ?_, rfl⟩, rfl⟩
      rw [sel_no (fun z => hp (pb_iff.mp z))]
  · rintro rec a y s1 ⟨rfl, rfl, rfl⟩
    rw [if_pos (show (896 : Int32) ≤ nI 896 from (nI_leI (a := 896) (by omega) (by omega)).mpr (Nat.le_refl _))]
/-- the i-th, or -1 -/
def oth (l : List Nat) (j : Nat) : Int32 := match l[j]? with
  | some k => nI k
  | none => -1
theorem F_find (hG : DG d) (hD : DC d s) (hR : CRep 23 s q) {f x : Nat} (hf : f < d 4 0) (hx : x < 2) (j : Nat) (hj : j < 2147483648) : f_Reas_find (nI f) (nI x) (nI j) s = some (oth (sel (pb (RsP d (fun y => q.1 y ≠ 0) f x)) 896) j, s) := by
  unfold f_Reas_find f_Reas_find_6
  refine itr2_run (N := 896) (I := fun k b y s1 => y = nI k ∧ (sel (pb (RsP d (fun y => q.1 y ≠ 0) f x)) k).length ≤ j ∧ b = nI (j - (sel (pb (RsP d (fun y => q.1 y ≠ 0) f x)) k).length) ∧ s1 = s) (E := fun o => o = some (oth (sel (pb (RsP d (fun y => q.1 y ≠ 0) f x)) 896) j, s)) ?_ ?_ 896 4096 0 (nI j) 0 s (by omega) (by omega) ⟨nI_0.symm, Nat.zero_le _, rfl, rfl⟩
  · rintro rec k b y s1 hk ⟨rfl, hl, rfl, rfl⟩
    have hh := F_holds hG hD hR hk hf hx
    rw [if_neg (fun e => by have := (nI_leI (a := 896) (by omega) (by omega)).mp e; omega), if_neg (nI_pos (by omega))]
    by_cases hp : RsP d (fun y => q.1 y ≠ 0) f x k
    · rw [hh.1 hp, bnd_some, if_neg (by decide)]
      by_cases h0 : j - (sel (pb (RsP d (fun y => q.1 y ≠ 0) f x)) k).length = 0
      · refine Or.inr ?_
        rw [if_pos ((nI_l0 (by omega)).mpr h0)]
        have e : j = (sel (pb (RsP d (fun y => q.1 y ≠ 0) f x)) k).length := by omega
        unfold oth
        rw [e, sel_get (pb_iff.mpr hp) 896 hk]
      · refine Or.inl ?_
        have em : nI (j - (sel (pb (RsP d (fun y => q.1 y ≠ 0) f x)) k).length) + -1 = nI (j - (sel (pb (RsP d (fun y => q.1 y ≠ 0) f x)) k).length - 1) := by
          rw [← pk_sub (b := 1) (by omega)]
          exact (Int32.sub_eq_add_neg _ _).symm
        rw [if_neg (fun e => h0 ((nI_l0 (by omega)).mp e)), em, ← nI_succ]
        refine ⟨_, _, _, ⟨rfl, ?_, ?_, rfl⟩, rfl⟩
        · rw [sel_yes (pb_iff.mpr hp), List.length_append]
          show _ + 1 ≤ _
          omega
        · rw [sel_yes (pb_iff.mpr hp), List.length_append]
          rfl
    · refine Or.inl ?_
      rw [hh.2 hp, bnd_some, if_pos rfl, ← nI_succ]
      refine ⟨_, _, _, ⟨rfl, ?_, ?_, rfl⟩, rfl⟩
      · rw [sel_no (fun z => hp (pb_iff.mp z))]; exact hl
      · rw [sel_no (fun z => hp (pb_iff.mp z))]
  · rintro rec b y s1 ⟨rfl, hl, rfl, rfl⟩
    rw [if_pos (show (896 : Int32) ≤ nI 896 from (nI_leI (a := 896) (by omega) (by omega)).mpr (Nat.le_refl _))]
    unfold oth
    rw [List.getElem?_eq_none hl]
end ReasB
/-! what holds of all that was told, and of the latest run -/
def AskOk (t : Dt) : Prop := t 24 0 ≤ 400 ∧ (∀ k, k < t 24 0 → t 22 k < t 8 0 ∧ t 23 k < t 4 0 ∧ t 5 (t 23 k) = t 10 (t 22 k)) ∧ (∀ k l, k < t 24 0 → l < t 24 0 → t 22 k = t 22 l → t 23 k = t 23 l → k = l) ∧
  (∀ u n, n < 32 → (t 15 (32 * u + n) = 1 ↔ ∃ k, k < t 24 0 ∧ t 22 k = u ∧ t 6 (t 23 k) = n))
def NU (t : Dt) : Prop := ∀ f g, f < t 4 0 → g < t 4 0 → t 5 f = t 5 g → t 6 f = t 6 g → f = g
def Few (t : Dt) : Prop := ∀ p, (sel (fun f => decide (t 5 f = p)) (t 4 0)).length ≤ 10
def TOk (t : Dt) : Prop := DOk t ∧ DF t ∧ NU t ∧ AskOk t ∧ Few t ∧ ∀ p, t 2 p = 1 → t 1 p = 1
def Sn (d t : Dt) : Prop := (d 0 0 ≤ t 0 0 ∧ d 4 0 ≤ t 4 0 ∧ d 8 0 ≤ t 8 0 ∧ d 16 0 ≤ t 16 0 ∧ d 24 0 ≤ t 24 0) ∧ (∀ p, p < d 0 0 → d 3 p = t 3 p) ∧ (∀ f, f < d 4 0 → d 5 f = t 5 f ∧ d 6 f = t 6 f ∧ d 7 f = t 7 f ∧ d 21 f = t 21 f) ∧
  (∀ u, u < d 8 0 → d 9 u = t 9 u ∧ d 10 u = t 10 u ∧ d 11 u = t 11 u ∧ d 12 u = t 12 u ∧ d 13 u = t 13 u ∧ d 14 u = t 14 (8 * u + d 25 0)) ∧ (∀ r, r < d 16 0 → d 17 r = t 17 r ∧ d 18 r = t 18 r ∧ d 19 r = t 19 r ∧ d 20 r = t 20 r) ∧
  (∀ k, k < d 24 0 → d 22 k = t 22 k ∧ d 23 k = t 23 k) ∧ (∀ p, p < 10 → (d 1 p = 1 → t 1 p = 1 ∧ d 2 p = t 2 p) ∧ (d 2 p = 1 → d 1 p = 1))
def SI (t d : Dt) (cur : Bool) : Prop := TOk t ∧ DG d ∧ Sn d t ∧ AskOk d ∧ FX d (stg d) ∧ (∀ x, stg d x ≤ 221) ∧ (cur = true → d = snapd t (d 25 0))
def CR (t d : Dt) (cur : Bool) (lv : List Nat) (s : Sg) : Prop :=
  TC t s ∧ SC d s ∧ (∀ x, x < 220 → s 24 x = nI (stg d x)) ∧ s 0 10 = (if cur = true then 1 else 0) ∧ s 0 9 = nI lv.length ∧ (∀ i v, lv[i]? = some v → s 30 i = nI v)
theorem DC_of {t d : Dt} {s : Sg} (hG : DG d) (hS : Sn d t) (hT : TC t s) (hC : SC d s) : DC d s := by
  obtain ⟨⟨n1, n2, n3, n4, n5⟩, s1, s2, s3, s4, s5, s6⟩ := hS
  obtain ⟨-, -, t3, t4, t5, -, t7⟩ := hT
  refine ⟨hC, fun p hp => ?_, fun f hf => ?_, fun u hu => ?_, fun r hr => ?_⟩
  · rw [s1 p hp]; exact t3 p (by omega)
  · obtain ⟨a1, a2, a3, a4⟩ := s2 f hf
    obtain ⟨b1, b2, b3, b4⟩ := t4 f (by omega)
    rw [a1, a2, a3]
    exact ⟨b1, b2, b4⟩
  · obtain ⟨a1, a2, a3, a4, a5, a6⟩ := s3 u hu
    obtain ⟨b1, b2, b3, b4, b5, b6⟩ := t5 u (by omega)
    rw [a1, a2, a3, a4, a5, a6]
    exact ⟨b1, b2, b3, b4, b5, b6 _ hG.2.2⟩
  · obtain ⟨a1, a2, a3, a4⟩ := s4 r hr
    rw [a1, a2, a3, a4]
    exact t7 r (by omega)
/-- the run's cells as a state of closing -/
theorem CR.rep {t d : Dt} {cur : Bool} {lv : List Nat} {s : Sg} (hI : SI t d cur) (h : CR t d cur lv s) : ∀ {x : Nat}, x < 220 → s 24 x = nI (stg d x) := fun hx => h.2.2.1 _ hx
