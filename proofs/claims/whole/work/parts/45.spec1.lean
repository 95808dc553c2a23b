/-! what both sides are held against -/
abbrev Dt : Type := Nat → Nat → Nat
def up2 (t : Dt) (c k v : Nat) : Dt := fun c' k' => if c' = c ∧ k' = k then v else t c' k'
theorem up2_s (t : Dt) (c k v : Nat) : up2 t c k v c k = v := if_pos ⟨rfl, rfl⟩
theorem up2_n (t : Dt) {c k v c' k' : Nat} (h : ¬ (c' = c ∧ k' = k)) : up2 t c k v c' k' = t c' k' := if_neg h
/-- the stages f keep the rules of d, and are the least -/
def FX (d : Dt) (f : Nat → Nat) : Prop := (∀ it n, f it = n + 1 → Dv d (fun x => 1 ≤ f x ∧ f x ≤ n) it) ∧ ∀ it n, Dv d (fun x => 1 ≤ f x ∧ f x ≤ n) it → 1 ≤ f it ∧ f it ≤ n + 1
theorem FX_uniq {d : Dt} {f g : Nat → Nat} (hf : FX d f) (hg : FX d g) : f = g := funext (fx_uniq (Dv_mono d) hf.1 hf.2 hg.1 hg.2)
noncomputable def stg (d : Dt) : Nat → Nat := @dite _ (∃ f, FX d f) (Classical.propDecidable _) (fun h => Classical.choose h) (fun _ _ => 0)
theorem stg_eq {d : Dt} {f : Nat → Nat} (h : FX d f) : stg d = f := by
  have hx : ∃ f, FX d f := ⟨f, h⟩
  have e : stg d = Classical.choose hx := dif_pos hx
  rw [e]
  exact FX_uniq (Classical.choose_spec hx) h
theorem FX_valid {d : Dt} (hd : DOk d) {f : Nat → Nat} (h : FX d f) {x : Nat} (hx : f x ≠ 0) : Vd d x := by
  obtain ⟨k, hk⟩ : ∃ k, f x = k + 1 := ⟨f x - 1, by omega⟩
  exact Dv_valid hd (h.1 x k hk)
/-- the platform's part of what was told: row 14 by 8 u + bit -/
def snap (t : Dt) (pl : Nat) : Dt := fun c k => if c = 14 then t 14 (8 * k + pl) else t c k
