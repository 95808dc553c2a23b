/-! what a telling call answers and does -/
def SpPack (t : Dt) (cur : Bool) (b v : Int32) (t' : Dt) (cur' : Bool) : Prop :=
  (t 0 0 < 10 ∧ v = nI (t 0 0) ∧ t' = up2 (up2 t 3 (t 0 0) (ix b)) 0 0 (t 0 0 + 1) ∧ cur' = false) ∨ (10 ≤ t 0 0 ∧ v = -1 ∧ t' = t ∧ cur' = cur)
def FC (t : Dt) (i j k : Nat) : Prop := i < t 0 0 ∧ j < 32 ∧ k < 8 ∧ (∀ f, f < t 4 0 → t 5 f = i → j ≠ t 6 f) ∧ (sel (fun f => decide (t 5 f = i)) (t 4 0)).length < 10 ∧ t 4 0 < 60
def addF (t : Dt) (i j b k : Nat) : Dt := up2 (up2 (up2 (up2 (up2 t 5 (t 4 0) i) 6 (t 4 0) j) 7 (t 4 0) b) 21 (t 4 0) k) 4 0 (t 4 0 + 1)
def SpFeat (t : Dt) (cur : Bool) (l1 l2 b l4 v : Int32) (t' : Dt) (cur' : Bool) : Prop :=
  (∃ i j k, l1 = nI i ∧ l2 = nI j ∧ l4 = nI k ∧ FC t i j k ∧ v = nI (t 4 0) ∧ t' = addF t i j (ix b) k ∧ cur' = false) ∨ ((¬ ∃ i j k, l1 = nI i ∧ l2 = nI j ∧ l4 = nI k ∧ FC t i j k) ∧ v = -1 ∧ t' = t ∧ cur' = cur)
def SpRoot (t : Dt) (cur : Bool) (l1 b v : Int32) (t' : Dt) (cur' : Bool) : Prop :=
  (∃ i, l1 = nI i ∧ i < t 0 0 ∧ t 1 i ≠ 1 ∧ v = 1 ∧ t' = up2 (up2 t 1 i 1) 2 i (ix b) ∧ cur' = false) ∨ ((∀ i, l1 = nI i → i < t 0 0 → t 1 i = 1) ∧ v = 0 ∧ t' = t ∧ cur' = cur)
def addU (t : Dt) (i j a b o : Nat) (pl : Int32) : Dt := up2 (fun c k => if c = 14 ∧ k / 8 = t 8 0 then (if bt pl (k % 8) = true then 1 else 0) else up2 (up2 (up2 (up2 (up2 t 9 (t 8 0) i) 10 (t 8 0) j) 11 (t 8 0) a) 12 (t 8 0) b) 13 (t 8 0) o c k) 8 0 (t 8 0 + 1)
def SpUser (t : Dt) (cur : Bool) (l1 l2 b1 b2 b3 l6 v : Int32) (t' : Dt) (cur' : Bool) : Prop :=
  (∃ i j, l1 = nI i ∧ l2 = nI j ∧ i < t 0 0 ∧ j < t 0 0 ∧ t 8 0 < 40 ∧ v = nI (t 8 0) ∧ t' = addU t i j (ix b1) (ix b2) (ix b3) l6 ∧ cur' = false) ∨ ((¬ ∃ i j, l1 = nI i ∧ l2 = nI j ∧ i < t 0 0 ∧ j < t 0 0 ∧ t 8 0 < 40) ∧ v = -1 ∧ t' = t ∧ cur' = cur)
def addA (t : Dt) (u f : Nat) : Dt := up2 (up2 (up2 (up2 t 15 (32 * u + t 6 f) 1) 22 (t 24 0) u) 23 (t 24 0) f) 24 0 (t 24 0 + 1)
def SpAsk (t : Dt) (cur : Bool) (l1 l2 v : Int32) (t' : Dt) (cur' : Bool) : Prop :=
  ((∀ u, u < t 8 0 → l1 ≠ nI u) ∧ v = -1 ∧ t' = t ∧ cur' = cur) ∨
  (∃ u, u < t 8 0 ∧ l1 = nI u ∧ (((∀ f, f < t 4 0 → t 5 f = t 10 u → l2 ≠ nI (t 6 f)) ∧ v = -2 ∧ t' = t ∧ cur' = cur) ∨
    (∃ f, f < t 4 0 ∧ t 5 f = t 10 u ∧ l2 = nI (t 6 f) ∧ ((t 15 (32 * u + t 6 f) = 1 ∧ v = -3 ∧ t' = t ∧ cur' = cur) ∨ (t 15 (32 * u + t 6 f) ≠ 1 ∧ v = 1 ∧ t' = addA t u f ∧ cur' = false)))))
def TV (t : Dt) (l1 l2 l3 l4 : Int32) (f k u g : Nat) : Prop := l1 = nI f ∧ f < t 4 0 ∧ l2 = nI k ∧ k < 4 ∧ t 16 0 < 60 ∧ (k = 0 → u = 0) ∧ (k ≠ 0 → l3 = nI u ∧ u < t 8 0 ∧ t 9 u = t 5 f ∧ (k = 1 → t 13 u = 1)) ∧ (k = 1 → g = 0) ∧ (k ≠ 1 → g < t 4 0 ∧ t 5 g = (if k = 0 then t 5 f else t 10 u) ∧ l4 = nI (t 6 g) ∧ (k = 0 → g ≠ f))
def addT (t : Dt) (f k u g : Nat) : Dt := up2 (up2 (up2 (up2 (up2 t 17 (t 16 0) f) 18 (t 16 0) k) 19 (t 16 0) u) 20 (t 16 0) g) 16 0 (t 16 0 + 1)
def SpTurn (t : Dt) (cur : Bool) (l1 l2 l3 l4 v : Int32) (t' : Dt) (cur' : Bool) : Prop :=
  (∃ f k u g, TV t l1 l2 l3 l4 f k u g ∧ v = nI (t 16 0) ∧ t' = addT t f k u g ∧ cur' = false) ∨ ((∀ f k u g, ¬ TV t l1 l2 l3 l4 f k u g) ∧ v = -1 ∧ t' = t ∧ cur' = cur)
/-- looking a feature up by its name -/
def Lk (t : Dt) (p : Nat) (y : Int32) (s : Sg) (o : Ro) : Prop := (∃ f, f < t 4 0 ∧ t 5 f = p ∧ y = nI (t 6 f) ∧ o = some (nI f, s)) ∨ ((∀ f, f < t 4 0 → t 5 f = p → y ≠ nI (t 6 f)) ∧ o = some (-1, s))
section Tl
variable {t d : Dt} {cur : Bool} {lv : List Nat} {s : Sg}
theorem F_ffind (hT : DOk t) (h : TC t s) {p : Nat} (hp : p < 2147483648) (y : Int32) : Lk t p y s (f_Feats_find (nI p) y s) := by
  have hFn := hT.2.1
  have hPn := hT.1
  unfold f_Feats_find f_Feats_find_2
  refine itr1_run (N := t 4 0) (I := fun k x s1 => x = nI k ∧ s1 = s ∧ ∀ f, f < k → t 5 f = p → y ≠ nI (t 6 f)) (E := Lk t p y s) ?_ ?_ (t 4 0) 4096 0 0 s (by omega) (by omega) ⟨nI_0.symm, rfl, fun f hf => absurd hf (Nat.not_lt_zero _)⟩
  · rintro rec k x s1 hk ⟨rfl, rfl, hno⟩
    have h5 := hT.2.2.2.2.1 k hk
    have hk4 := h.2.2.2.1 k hk
    rw [h.1.2.1, if_neg (fun e => by have := (nI_leI (by omega) (by omega)).mp e; omega), if_pos (inb_nI (by omega) (by omega)), ix_nI (by omega), hk4.1]
    have skip : (t 5 k = p → y ≠ nI (t 6 k)) → ∀ f, f < k + 1 → t 5 f = p → y ≠ nI (t 6 f) := fun hz f hf e => by
      by_cases hfk : f = k
      · subst hfk; exact hz e
      · exact hno f (by omega) e
    by_cases h1 : t 5 k = p
    · rw [if_pos (by rw [h1]), if_pos (inb_nI (by omega) (by omega)), hk4.2.1]
      by_cases h2 : nI (t 6 k) = y
      · rw [if_pos h2]
        exact Or.inr (Or.inl ⟨k, hk, h1, h2.symm, rfl⟩)
      · rw [if_neg h2, ← nI_succ]
        exact Or.inl ⟨_, _, ⟨rfl, rfl, skip (fun _ z => h2 z.symm)⟩, rfl⟩
    · rw [if_neg (fun e => h1 ((nI_eq (by omega) hp).mp e)), ← nI_succ]
      exact Or.inl ⟨_, _, ⟨rfl, rfl, skip (fun z => absurd z h1)⟩, rfl⟩
  · rintro rec x s1 ⟨rfl, rfl, hno⟩
    rw [h.1.2.1, if_pos ((nI_leI (by omega) (by omega)).mpr (Nat.le_refl _))]
    exact Or.inr ⟨hno, rfl⟩
theorem F_fcount (hT : DOk t) (h : TC t s) {p : Nat} (hp : p < 2147483648) : f_Feats_countOf (nI p) s = some (nI (sel (fun f => decide (t 5 f = p)) (t 4 0)).length, s) := by
  have hFn := hT.2.1
  have hPn := hT.1
  unfold f_Feats_countOf f_Feats_countOf_4
  refine itr2_run (N := t 4 0) (I := fun k a x s1 => x = nI k ∧ a = nI (sel (fun f => decide (t 5 f = p)) k).length ∧ s1 = s) (E := fun o => o = some (nI (sel (fun f => decide (t 5 f = p)) (t 4 0)).length, s)) ?_ ?_ (t 4 0) 4096 0 0 0 s (by omega) (by omega) ⟨nI_0.symm, nI_0.symm, rfl⟩
  · rintro rec k a x s1 hk ⟨rfl, rfl, rfl⟩
    have h5 := hT.2.2.2.2.1 k hk
    refine Or.inl ?_
    rw [h.1.2.1, if_neg (fun e => by have := (nI_leI (by omega) (by omega)).mp e; omega), if_pos (inb_nI (by omega) (by omega)), ix_nI (by omega), (h.2.2.2.1 k hk).1]
    by_cases h1 : t 5 k = p
    · rw [if_pos (by rw [h1]), ← nI_succ, ← nI_succ]
      refine ⟨_, _, _, ⟨rfl, ?_, rfl⟩, rfl⟩
      rw [sel_yes (by simp [h1]), List.length_append]
      rfl
    · rw [if_neg (fun e => h1 ((nI_eq (by omega) hp).mp e)), ← nI_succ]
      refine ⟨_, _, _, ⟨rfl, ?_, rfl⟩, rfl⟩
      rw [sel_no (by simp [h1])]
  · rintro rec a x s1 ⟨rfl, rfl, rfl⟩
    rw [h.1.2.1, if_pos ((nI_leI (by omega) (by omega)).mpr (Nat.le_refl _))]
theorem ix_isb {b : Int32} (h : isb b = true) : b = nI (ix b) ∧ ix b < 2 := by
  rcases isb_or h with rfl | rfl
  · exact ⟨rfl, by decide⟩
  · exact ⟨rfl, by decide⟩
theorem nn1 (n : Nat) : nI n + 1 - 1 = nI n := by
  rw [← nI_succ]
  exact pk_sub (b := 1) (by omega)
/-- what a telling leaves as it was -/
def Oth (s s' : Sg) : Prop := ∀ c, 31 ≤ c → s' c = s c
theorem CR.told {t' : Dt} {s' : Sg} (h : CR t d cur lv s) (hT : TC t' s') (e : ∀ c, 21 ≤ c → s' c = s c) (e0 : s' 0 9 = s 0 9) (e1 : s' 0 10 = 0) : CR t' d false lv s' := by
  obtain ⟨-, h2, h3, h4, h5, h6⟩ := h
  refine ⟨hT, ?_, ?_, e1, ?_, ?_⟩
  · unfold SC
    rw [e 21 (by omega), e 22 (by omega)]
    exact h2
  · rw [e 24 (by omega)]
    exact h3
  · rw [e0]
    exact h5
  · rw [e 30 (by omega)]
    exact h6
theorem C_pack (hT : DOk t) (h : CR t d cur lv s) {b : Int32} (hb : isb b = true) : ∃ v s' t' cur', f_FU_pack b s = some (v, s') ∧ SpPack t cur b v t' cur' ∧ CR t' d cur' lv s' ∧ Oth s s' := by
  have hPn := hT.1
  have hTC := h.1
  unfold f_FU_pack f_Packs_add
  rw [hTC.1.1]
  by_cases h1 : t 0 0 < 10
  · have e10 : wr s 0 10 0 1 0 = nI (t 0 0) := by rw [wr_c _ _ _ (by omega)]; exact hTC.1.1
    rw [if_pos (show nI (t 0 0) < 10 from (nI_ltI (b := 10) (by omega) (by omega)).mpr h1), e10, if_pos (inb_nI h1 (by omega)), if_pos hb, bnd_some, ix_nI (by omega), nn1]
    refine ⟨_, _, _, false, rfl, Or.inl ⟨h1, rfl, rfl, rfl⟩, h.told ?_ (fun c hc => ?_) (by simp [wr_at]) (by simp [wr_at]), fun c hc => ?_⟩
    · obtain ⟨⟨a1, a2, a3, a4⟩, a5, a6, a7, a8, a9, a10⟩ := hTC
      refine ⟨⟨?_, ?_, ?_, ?_⟩, ?_, ?_, ?_, ?_, ?_, ?_⟩
      · simp [wr_at, up2, nI_succ]
      · simpa [wr_at, up2] using a2
      · simpa [wr_at, up2] using a3
      · simpa [wr_at, up2] using a4
      · simpa [wr_at, up2] using a5
      · intro p hp
        have hp : p < t 0 0 + 1 := by simpa [up2] using hp
        by_cases e : p = t 0 0
        · subst e
          simp [wr_at, up2]
          exact (ix_isb hb).1
        · simp [wr_at, up2, e]
          exact a6 p (by omega)
      · simpa [wr_at, up2] using a7
      · simpa [wr_at, up2] using a8
      · simpa [wr_at, up2] using a9
      · simpa [wr_at, up2] using a10
    · rw [wr_c _ _ _ (by omega), wr_c _ _ _ (by omega), wr_c _ _ _ (by omega)]
    · rw [wr_c _ _ _ (by omega), wr_c _ _ _ (by omega), wr_c _ _ _ (by omega)]
  · rw [if_neg (show ¬ nI (t 0 0) < 10 from fun e => h1 ((nI_ltI (b := 10) (by omega) (by omega)).mp e))]
    exact ⟨_, _, _, _, rfl, Or.inr ⟨by omega, rfl, rfl, rfl⟩, h, fun _ _ => rfl⟩
end Tl
