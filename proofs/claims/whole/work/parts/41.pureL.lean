/-! the numbers below n with p, in their order -/
def sel (p : Nat → Bool) (n : Nat) : List Nat := (List.range n).filter p
theorem sel_0 (p : Nat → Bool) : sel p 0 = [] := rfl
theorem sel_succ (p : Nat → Bool) (n : Nat) : sel p (n + 1) = sel p n ++ (if p n = true then [n] else []) := by
  unfold sel
  rw [List.range_succ, List.filter_append]
  congr 1
  by_cases h : p n = true
  · simp [h]
  · simp [h]
theorem sel_yes {p : Nat → Bool} {n : Nat} (h : p n = true) : sel p (n + 1) = sel p n ++ [n] := by rw [sel_succ, if_pos h]
theorem sel_no {p : Nat → Bool} {n : Nat} (h : ¬ p n = true) : sel p (n + 1) = sel p n := by rw [sel_succ, if_neg h, List.append_nil]
theorem sel_len (p : Nat → Bool) : ∀ n, (sel p n).length ≤ n
  | 0 => Nat.le_refl _
  | n + 1 => by
    have := sel_len p n
    rw [sel_succ, List.length_append]
    split <;> simp <;> omega
theorem sel_mono (p : Nat → Bool) {k : Nat} : ∀ n, k ≤ n → (sel p k).length ≤ (sel p n).length
  | 0, h => by
    obtain rfl : k = 0 := by omega
    exact Nat.le_refl _
  | n + 1, h => by
    by_cases hk : k = n + 1
    · rw [hk]; exact Nat.le_refl _
    · have := sel_mono p n (k := k) (by omega)
      rw [sel_succ, List.length_append]
      omega
theorem sel_get {p : Nat → Bool} {k : Nat} (hp : p k = true) : ∀ n, k < n → (sel p n)[(sel p k).length]? = some k
  | 0, h => by omega
  | n + 1, h => by
    rw [sel_succ]
    by_cases hk : k = n
    · subst hk
      rw [List.getElem?_append_right (Nat.le_refl _), Nat.sub_self, if_pos hp]
      rfl
    · have h1 := sel_get hp n (by omega)
      have h2 := (List.getElem?_eq_some_iff.mp h1).1
      rw [List.getElem?_append_left h2]
      exact h1
theorem sel_congr {p p' : Nat → Bool} : ∀ n, (∀ k, k < n → p k = p' k) → sel p n = sel p' n
  | 0, _ => rfl
  | n + 1, h => by rw [sel_succ, sel_succ, sel_congr n (fun k hk => h k (by omega)), h n (by omega)]
theorem sel_mem {p : Nat → Bool} {n k : Nat} : k ∈ sel p n ↔ k < n ∧ p k = true := by
  unfold sel
  rw [List.mem_filter, List.mem_range]
