def OthC (s s' : Sg) : Prop := ∀ c, c < 31 → s' c = s c
section Rt
variable {t d : Dt} {cur : Bool} {lv : List Nat} {s : Sg}
theorem RR.told {t' : Dt} {s' : Sg} (h : RR t d cur lv s) (hT : TR t' s') (e : ∀ c, 51 ≤ c → s' c = s c) (e0 : ∀ k, 25 ≤ k → k ≠ 33 → s' 31 k = s 31 k) (e1 : s' 31 33 = 1) : RR t' d false lv s' := by
  obtain ⟨-, h2, h3, h4, h5, h6⟩ := h
  refine ⟨hT, ?_, ?_, ?_, ?_, ?_⟩
  · unfold SR
    rw [e0 25 (by omega) (by omega), e0 26 (by omega) (by omega), e0 27 (by omega) (by omega), e0 28 (by omega) (by omega), e0 29 (by omega) (by omega), e0 30 (by omega) (by omega), e 51 (by omega)]
    exact h2
  · rw [e 55 (by omega), e 56 (by omega), e 57 (by omega)]
    exact h3
  · unfold RCu
    rw [e0 32 (by omega) (by omega), e1]
    rcases h4 with h4 | h4
    · exact Or.inl ⟨h4.1, rfl⟩
    · exact Or.inr ⟨h4.1, Or.inr ⟨rfl, rfl⟩⟩
  · rw [e0 42 (by omega) (by omega), e 58 (by omega)]
    exact h5
  · rw [e0 40 (by omega) (by omega)]
    exact h6
theorem RR.code (h : RR t d cur lv s) (v : Int32) : RR t d cur lv (wr s 31 0 v) := by
  unfold RR TR SR RCu
  simp only [wr_c _ _ _ (show 32 ≠ 31 by omega), wr_c _ _ _ (show 33 ≠ 31 by omega), wr_c _ _ _ (show 34 ≠ 31 by omega), wr_c _ _ _ (show 35 ≠ 31 by omega), wr_c _ _ _ (show 36 ≠ 31 by omega), wr_c _ _ _ (show 37 ≠ 31 by omega), wr_c _ _ _ (show 38 ≠ 31 by omega), wr_c _ _ _ (show 39 ≠ 31 by omega), wr_c _ _ _ (show 40 ≠ 31 by omega), wr_c _ _ _ (show 41 ≠ 31 by omega), wr_c _ _ _ (show 42 ≠ 31 by omega), wr_c _ _ _ (show 43 ≠ 31 by omega), wr_c _ _ _ (show 44 ≠ 31 by omega), wr_c _ _ _ (show 45 ≠ 31 by omega), wr_c _ _ _ (show 46 ≠ 31 by omega), wr_c _ _ _ (show 47 ≠ 31 by omega), wr_c _ _ _ (show 48 ≠ 31 by omega), wr_c _ _ _ (show 49 ≠ 31 by omega), wr_c _ _ _ (show 50 ≠ 31 by omega), wr_c _ _ _ (show 51 ≠ 31 by omega), wr_c _ _ _ (show 55 ≠ 31 by omega), wr_c _ _ _ (show 56 ≠ 31 by omega), wr_c _ _ _ (show 57 ≠ 31 by omega), wr_c _ _ _ (show 58 ≠ 31 by omega),
    wr_k _ _ _ (show 1 ≠ 0 by omega), wr_k _ _ _ (show 2 ≠ 0 by omega), wr_k _ _ _ (show 3 ≠ 0 by omega), wr_k _ _ _ (show 4 ≠ 0 by omega), wr_k _ _ _ (show 5 ≠ 0 by omega), wr_k _ _ _ (show 25 ≠ 0 by omega), wr_k _ _ _ (show 26 ≠ 0 by omega), wr_k _ _ _ (show 27 ≠ 0 by omega), wr_k _ _ _ (show 28 ≠ 0 by omega), wr_k _ _ _ (show 29 ≠ 0 by omega), wr_k _ _ _ (show 30 ≠ 0 by omega), wr_k _ _ _ (show 32 ≠ 0 by omega), wr_k _ _ _ (show 33 ≠ 0 by omega), wr_k _ _ _ (show 40 ≠ 0 by omega), wr_k _ _ _ (show 42 ≠ 0 by omega)]
  exact h
theorem OthC.code (s : Sg) (v : Int32) : OthC s (wr s 31 0 v) := fun c hc => wr_c _ _ _ (by omega)
theorem MP_yes {k n : Nat} (e : s 31 1 = nI n) (hk : k < n) (hn : n < 2147483648) : f_Mod_isPack (nI k) s = some (1, s) := by
  unfold f_Mod_isPack
  rw [e, if_neg (nI_pos (by omega)), if_neg (fun z => absurd ((nI_leI hn (by omega)).mp z) (by omega))]
theorem MP_no {x : Int32} {n : Nat} (e : s 31 1 = nI n) (hn : n < 2147483648) (h : ∀ k, k < n → x ≠ nI k) : f_Mod_isPack x s = some (0, s) := by
  unfold f_Mod_isPack
  rw [e]
  by_cases h1 : x < 0
  · rw [if_pos h1]
  · rw [if_neg h1]
    by_cases h2 : nI n ≤ x
    · rw [if_pos h2]
    · obtain ⟨k, hk, e⟩ := nI_of_lt hn h1 h2
      exact absurd e (h k hk)
theorem MU_yes {k n : Nat} (e : s 31 3 = nI n) (hk : k < n) (hn : n < 2147483648) : f_Mod_isUser (nI k) s = some (1, s) := by
  unfold f_Mod_isUser
  rw [e, if_neg (nI_pos (by omega)), if_neg (fun z => absurd ((nI_leI hn (by omega)).mp z) (by omega))]
theorem MU_no {x : Int32} {n : Nat} (e : s 31 3 = nI n) (hn : n < 2147483648) (h : ∀ k, k < n → x ≠ nI k) : f_Mod_isUser x s = some (0, s) := by
  unfold f_Mod_isUser
  rw [e]
  by_cases h1 : x < 0
  · rw [if_pos h1]
  · rw [if_neg h1]
    by_cases h2 : nI n ≤ x
    · rw [if_pos h2]
    · obtain ⟨k, hk, e⟩ := nI_of_lt hn h1 h2
      exact absurd e (h k hk)
theorem MF_yes {k n : Nat} (e : s 31 2 = nI n) (hk : k < n) (hn : n < 2147483648) : f_Mod_isFeature (nI k) s = some (1, s) := by
  unfold f_Mod_isFeature
  rw [e, if_neg (nI_pos (by omega)), if_neg (fun z => absurd ((nI_leI hn (by omega)).mp z) (by omega))]
theorem MF_no {x : Int32} {n : Nat} (e : s 31 2 = nI n) (hn : n < 2147483648) (h : ∀ k, k < n → x ≠ nI k) : f_Mod_isFeature x s = some (0, s) := by
  unfold f_Mod_isFeature
  rw [e]
  by_cases h1 : x < 0
  · rw [if_pos h1]
  · rw [if_neg h1]
    by_cases h2 : nI n ≤ x
    · rw [if_pos h2]
    · obtain ⟨k, hk, e⟩ := nI_of_lt hn h1 h2
      exact absurd e (h k hk)
theorem M_named (hT : DOk t) (h : TR t s) {p : Nat} (hp : p < 2147483648) (y : Int32) : Lk t p y s (f_Mod_named (nI p) y s) := by
  have hFn := hT.2.1
  have hPn := hT.1
  unfold f_Mod_named f_Mod_named_5
  refine itr2_run (N := t 4 0) (I := fun k a x s1 => x = nI k ∧ s1 = s ∧ ((∃ f, f < k ∧ t 5 f = p ∧ y = nI (t 6 f) ∧ a = nI f) ∨ ((∀ f, f < k → t 5 f = p → y ≠ nI (t 6 f)) ∧ a = -1))) (E := Lk t p y s) ?_ ?_ (t 4 0) 4096 0 _ 0 s (by omega) (by omega) ⟨nI_0.symm, rfl, Or.inr ⟨fun f hf => absurd hf (Nat.not_lt_zero _), rfl⟩⟩
  · rintro rec k a x s1 hk ⟨rfl, rfl, ha⟩
    have h5 := hT.2.2.2.2.1 k hk
    have hk4 := h.2.2.2.1 k hk
    refine Or.inl ?_
    rw [h.1.2.1, if_neg (fun e => by have := (nI_leI (by omega) (by omega)).mp e; omega), if_pos (inb_nI (by omega) (by omega)), ix_nI (by omega), hk4.1, ← nI_succ]
    have keep : ¬ (t 5 k = p ∧ y = nI (t 6 k)) → ∃ (y1 y2 : Int32) (s' : Sg), (y2 = nI (k + 1) ∧ s' = s1 ∧ ((∃ f, f < k + 1 ∧ t 5 f = p ∧ y = nI (t 6 f) ∧ y1 = nI f) ∨ ((∀ f, f < k + 1 → t 5 f = p → y ≠ nI (t 6 f)) ∧ y1 = -1))) ∧ rec a (nI (k + 1)) s1 = rec y1 y2 s' := by
      intro hn
      refine ⟨_, _, _, ⟨rfl, rfl, ?_⟩, rfl⟩
      rcases ha with ⟨f, hf, c1, c2, c3⟩ | ⟨c1, c2⟩
      · exact Or.inl ⟨f, by omega, c1, c2, c3⟩
      · refine Or.inr ⟨fun f hf e z => ?_, c2⟩
        by_cases g : f = k
        · subst g; exact hn ⟨e, z⟩
        · exact c1 f (by omega) e z
    by_cases h1 : t 5 k = p
    · rw [if_pos (by rw [h1]), if_pos (inb_nI (by omega) (by omega)), hk4.2.1]
      by_cases h2 : nI (t 6 k) = y
      · rw [if_pos h2]
        exact ⟨_, _, _, ⟨rfl, rfl, Or.inl ⟨k, by omega, h1, h2.symm, rfl⟩⟩, rfl⟩
      · rw [if_neg h2]
        exact keep (fun z => h2 z.2.symm)
    · rw [if_neg (fun e => h1 ((nI_eq (by omega) hp).mp e))]
      exact keep (fun z => h1 z.1)
  · rintro rec a x s1 ⟨rfl, rfl, ha⟩
    rw [h.1.2.1, if_pos ((nI_leI (by omega) (by omega)).mpr (Nat.le_refl _))]
    rcases ha with ⟨f, hf, c1, c2, c3⟩ | ⟨c1, c2⟩
    · exact Or.inl ⟨f, hf, c1, c2, by rw [c3]⟩
    · exact Or.inr ⟨c1, by rw [c2]⟩
theorem M_many (hT : DOk t) (h : TR t s) {p : Nat} (hp : p < 2147483648) : f_Mod_many (nI p) s = some (nI (sel (fun f => decide (t 5 f = p)) (t 4 0)).length, s) := by
  have hFn := hT.2.1
  have hPn := hT.1
  unfold f_Mod_many f_Mod_many_4
  refine itr2_run (N := t 4 0) (I := fun k a x s1 => x = nI k ∧ a = nI (sel (fun f => decide (t 5 f = p)) k).length ∧ s1 = s) (E := fun o => o = some (nI (sel (fun f => decide (t 5 f = p)) (t 4 0)).length, s)) ?_ ?_ (t 4 0) 4096 0 0 0 s (by omega) (by omega) ⟨nI_0.symm, nI_0.symm, rfl⟩
  · rintro rec k a x s1 hk ⟨rfl, rfl, rfl⟩
    have h5 := hT.2.2.2.2.1 k hk
    refine Or.inl ?_
    rw [h.1.2.1, if_neg (fun e => by have := (nI_leI (by omega) (by omega)).mp e; omega), if_pos (inb_nI (by omega) (by omega)), ix_nI (by omega), (h.2.2.2.1 k hk).1]
    by_cases h1 : t 5 k = p
    · rw [if_pos (by rw [h1]), ← nI_succ, ← nI_succ]
      refine ⟨_, _, _, ⟨rfl, ?_, rfl⟩, rfl⟩
      rw [sel_yes (by simp [h1]), List.length_append]
      rfl
    · rw [if_neg (fun e => h1 ((nI_eq (by omega) hp).mp e)), ← nI_succ, show ∀ x : Int32, x + 0 = x from fun x => Int32.add_zero x]
      refine ⟨_, _, _, ⟨rfl, ?_, rfl⟩, rfl⟩
      rw [sel_no (by simp [h1])]
  · rintro rec a x s1 ⟨rfl, rfl, rfl⟩
    rw [h.1.2.1, if_pos ((nI_leI (by omega) (by omega)).mpr (Nat.le_refl _))]
theorem R_pack (hT : DOk t) (h : RR t d cur lv s) {b : Int32} (hb : isb b = true) : ∃ v s' t' cur', f_Mod_pack b s = some (v, s') ∧ SpPack t cur b v t' cur' ∧ RR t' d cur' lv s' ∧ OthC s s' := by
  have hPn := hT.1
  have hTR := h.1
  unfold f_Mod_pack
  rw [hTR.1.1]
  by_cases h1 : t 0 0 < 10
  · rw [if_neg (show ¬ nI (t 0 0) = 10 from fun z => by have := (nI_lk 10 (by omega) (by omega)).mp z; omega), if_pos (inb_nI h1 (by omega)), if_pos hb, ix_nI (by omega), nn1]
    refine ⟨_, _, _, false, rfl, Or.inl ⟨h1, rfl, rfl, rfl⟩, h.told ?_ (fun c hc => ?_) (fun k h1 h2 => ?_) (by simp [wr_at]), fun c hc => ?_⟩
    · obtain ⟨⟨a1, a2, a3, a4, a5⟩, a6, a7, a8, a9, a10, a11⟩ := hTR
      refine ⟨⟨?_, ?_, ?_, ?_, ?_⟩, ?_, ?_, ?_, ?_, ?_, ?_⟩
      · simp [wr_at, up2, nI_succ]
      · simpa [wr_at, up2] using a2
      · simpa [wr_at, up2] using a3
      · simpa [wr_at, up2] using a4
      · simpa [wr_at, up2] using a5
      · intro p hp
        have hp : p < t 0 0 + 1 := by simpa [up2] using hp
        by_cases e : p = t 0 0
        · subst e
          simp [wr_at, up2]
          exact (ix_isb hb).1
        · simp [wr_at, up2, e]
          exact a6 p (by omega)
      · simpa [wr_at, up2] using a7
      · simpa [wr_at, up2] using a8
      · simpa [wr_at, up2] using a9
      · simpa [wr_at, up2] using a10
      · simpa [wr_at, up2] using a11
    · simp only [wr_c _ _ _ (show c ≠ 31 by omega), wr_c _ _ _ (show c ≠ 32 by omega)]
    · rw [wr_k _ _ _ h2, wr_k _ _ _ (by omega), wr_c _ _ _ (by omega), wr_k _ _ _ (by omega)]
    · simp only [wr_c _ _ _ (show c ≠ 31 by omega), wr_c _ _ _ (show c ≠ 32 by omega)]
  · rw [if_pos (show nI (t 0 0) = 10 from (nI_lk 10 (by omega) (by omega)).mpr (by omega))]
    exact ⟨_, _, _, _, rfl, Or.inr ⟨by omega, rfl, rfl, rfl⟩, h.code 0, OthC.code s 0⟩
theorem R_feature (hT : DOk t) (hFew : Few t) (h : RR t d cur lv s) (l1 l2 l4 : Int32) {b : Int32} (hb : isb b = true) : ∃ v s' t' cur', f_Mod_feature l1 l2 b l4 s = some (v, s') ∧ SpFeat t cur l1 l2 b l4 v t' cur' ∧ RR t' d cur' lv s' ∧ OthC s s' := by
  have hPn := hT.1
  have hFn := hT.2.1
  have h0 := h.code 0
  have hO := OthC.code s 0
  unfold f_Mod_feature
  generalize wr s 31 0 0 = s0 at h0 hO
  have hTR := h0.1
  have no : (¬ ∃ i j k, l1 = nI i ∧ l2 = nI j ∧ l4 = nI k ∧ FC t i j k) → ∃ v s' t' cur', (some (-1, s0) : Ro) = some (v, s') ∧ SpFeat t cur l1 l2 b l4 v t' cur' ∧ RR t' d cur' lv s' ∧ OthC s s' := fun hn => ⟨_, _, _, _, rfl, Or.inr ⟨hn, rfl, rfl, rfl⟩, h0, hO⟩
  rcases hasc l1 (t 0 0) with ⟨i, hi, rfl⟩ | hno
  · rw [MP_yes hTR.1.1 hi (by omega), bnd_some, if_neg (by decide)]
    by_cases j0 : l2 < 0
    · rw [if_pos j0]
      refine no ?_
      rintro ⟨i', j', k', g1, g2, g3, g4⟩
      rw [g2] at j0
      exact nI_pos (by have := g4.2.1; omega) j0
    rw [if_neg j0]
    by_cases j1 : (32 : Int32) ≤ l2
    · rw [if_pos j1]
      refine no ?_
      rintro ⟨i', j', k', g1, g2, g3, g4⟩
      rw [g2] at j1
      have hj := g4.2.1
      have := (nI_leI (a := 32) (by omega) (by omega)).mp j1
      omega
    rw [if_neg j1]
    by_cases m0 : l4 < 0
    · rw [if_pos m0]
      refine no ?_
      rintro ⟨i', j', k', g1, g2, g3, g4⟩
      rw [g3] at m0
      exact nI_pos (by have := g4.2.2.1; omega) m0
    rw [if_neg m0]
    by_cases m1 : (8 : Int32) ≤ l4
    · rw [if_pos m1]
      refine no ?_
      rintro ⟨i', j', k', g1, g2, g3, g4⟩
      rw [g3] at m1
      have hk := g4.2.2.1
      have := (nI_leI (a := 8) (by omega) (by omega)).mp m1
      omega
    rw [if_neg m1, hTR.1.2.1]
    obtain ⟨j, hj, rfl⟩ := nI_of_lt (n := 32) (by omega) j0 j1
    obtain ⟨k, hk, rfl⟩ := nI_of_lt (n := 8) (by omega) m0 m1
    by_cases h60 : t 4 0 < 60
    · rw [if_neg (show ¬ nI (t 4 0) = 60 from fun z => by have := (nI_lk 60 (by omega) (by omega)).mp z; omega), M_many hT hTR (by omega), bnd_some]
      have hlen := hFew i
      by_cases h10 : (sel (fun f => decide (t 5 f = i)) (t 4 0)).length < 10
      · rw [if_neg (show ¬ nI _ = (10 : Int32) from fun z => by have := (nI_lk 10 (by omega) (by omega)).mp z; omega)]
        rcases M_named hT hTR (p := i) (by omega) (nI j) with ⟨f, hf, a1, a2, e4⟩ | ⟨hnf, e4⟩
        · have h6 := (hT.2.2.2.2.1 f hf).2
          rw [e4, bnd_some, if_neg (nI_m1 (by omega))]
          refine no ?_
          rintro ⟨i', j', k', g1, g2, g3, g4⟩
          have := nI_inj (by omega) (by have := g4.1; omega) g1
          have h7 := nI_inj (by omega) (by have := g4.2.1; omega) g2
          have h8 := nI_inj (by omega) (by omega) a2
          exact g4.2.2.2.1 f hf (by omega) (by omega)
        · rw [e4, bnd_some, if_pos rfl, hTR.1.2.1, if_pos (inb_nI h60 (by omega)), if_pos (inb_nI h60 (by omega)), if_pos (inb_nI h60 (by omega)), if_pos (inb_nI h60 (by omega)), if_pos hb, ix_nI (by omega), nn1]
          have hFC : FC t i j k := ⟨hi, hj, hk, fun f hf h5 z => hnf f hf h5 (by rw [z]), h10, h60⟩
          refine ⟨_, _, _, false, rfl, Or.inl ⟨i, j, k, rfl, rfl, rfl, hFC, rfl, rfl, rfl⟩, h0.told ?_ (fun c hc => ?_) (fun q h1 h2 => ?_) (by simp [wr_at]), fun c hc => ?_⟩
          · obtain ⟨⟨a1, a2, a3, a4, a5⟩, a6, a7, a8, a9, a10, a11⟩ := hTR
            refine ⟨⟨?_, ?_, ?_, ?_, ?_⟩, ?_, ?_, ?_, ?_, ?_, ?_⟩
            · simpa [wr_at, up2, addF] using a1
            · simp [wr_at, up2, addF, nI_succ]
            · simpa [wr_at, up2, addF] using a3
            · simpa [wr_at, up2, addF] using a4
            · simpa [wr_at, up2, addF] using a5
            · simpa [wr_at, up2, addF] using a6
            · simpa [wr_at, up2, addF] using a7
            · intro f hf
              have hf : f < t 4 0 + 1 := by simpa [up2, addF] using hf
              by_cases e : f = t 4 0
              · subst e
                simp [wr_at, up2, addF]
                exact (ix_isb hb).1
              · simp [wr_at, up2, addF, e]
                exact a8 f (by omega)
            · simpa [wr_at, up2, addF] using a9
            · simpa [wr_at, up2, addF] using a10
            · simpa [wr_at, up2, addF] using a11
          · simp only [wr_c _ _ _ (show c ≠ 31 by omega), wr_c _ _ _ (show c ≠ 35 by omega), wr_c _ _ _ (show c ≠ 36 by omega), wr_c _ _ _ (show c ≠ 37 by omega), wr_c _ _ _ (show c ≠ 38 by omega)]
          · rw [wr_k _ _ _ h2, wr_k _ _ _ (by omega), wr_c _ _ _ (by omega), wr_c _ _ _ (by omega), wr_c _ _ _ (by omega), wr_c _ _ _ (by omega)]
          · simp only [wr_c _ _ _ (show c ≠ 31 by omega), wr_c _ _ _ (show c ≠ 35 by omega), wr_c _ _ _ (show c ≠ 36 by omega), wr_c _ _ _ (show c ≠ 37 by omega), wr_c _ _ _ (show c ≠ 38 by omega)]
            exact hO c hc
      · rw [if_pos (show nI _ = (10 : Int32) from (nI_lk 10 (by omega) (by omega)).mpr (by omega))]
        refine no ?_
        rintro ⟨i', j', k', g1, g2, g3, g4⟩
        have := nI_inj (by omega) (by have := g4.1; omega) g1
        subst this
        exact h10 g4.2.2.2.2.1
    · rw [if_pos (show nI (t 4 0) = 60 from (nI_lk 60 (by omega) (by omega)).mpr (by omega))]
      refine no ?_
      rintro ⟨i', j', k', g1, g2, g3, g4⟩
      exact h60 g4.2.2.2.2.2
  · rw [MP_no hTR.1.1 (by omega) hno, bnd_some, if_pos rfl]
    refine no ?_
    rintro ⟨i', j', k', g1, g2, g3, g4⟩
    exact hno i' g4.1 g1
theorem R_root (hT : DOk t) (h : RR t d cur lv s) (l1 : Int32) {b : Int32} (hb : isb b = true) : ∃ v s' t' cur', f_Mod_root l1 b s = some (v, s') ∧ SpRoot t cur l1 b v t' cur' ∧ RR t' d cur' lv s' ∧ OthC s s' := by
  have hPn := hT.1
  have h0 := h.code 0
  have hO := OthC.code s 0
  unfold f_Mod_root
  generalize wr s 31 0 0 = s0 at h0 hO
  have hTR := h0.1
  rcases hasc l1 (t 0 0) with ⟨i, hi, rfl⟩ | hno
  · rw [MP_yes hTR.1.1 hi (by omega), bnd_some, if_neg (by decide), if_pos (inb_nI (by omega) (by omega)), ix_nI (by omega), (hTR.2.2.1 i (by omega)).1]
    by_cases h1 : t 1 i = 1
    · rw [if_pos h1, if_neg (by decide)]
      refine ⟨_, _, _, _, rfl, Or.inr ⟨fun i' g1 g2 => ?_, rfl, rfl, rfl⟩, h0, hO⟩
      have := nI_inj (by omega) (by omega) g1
      subst this
      exact h1
    · rw [if_neg h1, if_pos rfl, if_pos (inb_nI (by omega) (by omega)), if_pos (show isb 1 = true from rfl), if_pos (inb_nI (by omega) (by omega)), if_pos hb]
      refine ⟨_, _, _, false, rfl, Or.inl ⟨i, rfl, hi, h1, rfl, rfl, rfl⟩, h0.told ?_ (fun c hc => ?_) (fun q h1 h2 => ?_) (by simp [wr_at]), fun c hc => ?_⟩
      · obtain ⟨⟨a1, a2, a3, a4, a5⟩, a6, a7, a8, a9, a10, a11⟩ := hTR
        refine ⟨⟨?_, ?_, ?_, ?_, ?_⟩, ?_, ?_, ?_, ?_, ?_, ?_⟩
        · simpa [wr_at, up2] using a1
        · simpa [wr_at, up2] using a2
        · simpa [wr_at, up2] using a3
        · simpa [wr_at, up2] using a4
        · simpa [wr_at, up2] using a5
        · simpa [wr_at, up2] using a6
        · intro p hp
          by_cases e : p = i
          · subst e
            simp [wr_at, up2]
            rcases isb_or hb with rfl | rfl
            · rfl
            · rfl
          · simp [wr_at, up2, e]
            exact a7 p hp
        · simpa [wr_at, up2] using a8
        · simpa [wr_at, up2] using a9
        · simpa [wr_at, up2] using a10
        · simpa [wr_at, up2] using a11
      · simp only [wr_c _ _ _ (show c ≠ 31 by omega), wr_c _ _ _ (show c ≠ 33 by omega), wr_c _ _ _ (show c ≠ 34 by omega)]
      · rw [wr_k _ _ _ h2, wr_c _ _ _ (by omega), wr_c _ _ _ (by omega)]
      · simp only [wr_c _ _ _ (show c ≠ 31 by omega), wr_c _ _ _ (show c ≠ 33 by omega), wr_c _ _ _ (show c ≠ 34 by omega)]
        exact hO c hc
  · rw [MP_no hTR.1.1 (by omega) hno, bnd_some, if_pos rfl]
    exact ⟨_, _, _, _, rfl, Or.inr ⟨fun i' g1 g2 => absurd g1 (hno i' g2), rfl, rfl, rfl⟩, h0, hO⟩
theorem R_user (hT : DOk t) (h : RR t d cur lv s) (l1 l2 l6 : Int32) {b1 b2 b3 : Int32} (hb1 : isb b1 = true) (hb2 : isb b2 = true) (hb3 : isb b3 = true) : ∃ v s' t' cur', f_Mod_user l1 l2 b1 b2 b3 l6 s = some (v, s') ∧ SpUser t cur l1 l2 b1 b2 b3 l6 v t' cur' ∧ RR t' d cur' lv s' ∧ OthC s s' := by
  have hPn := hT.1
  have hUn := hT.2.2.1
  have h0 := h.code 0
  have hO := OthC.code s 0
  unfold f_Mod_user
  generalize wr s 31 0 0 = s0 at h0 hO
  have hTR := h0.1
  have no : (¬ ∃ i j, l1 = nI i ∧ l2 = nI j ∧ i < t 0 0 ∧ j < t 0 0 ∧ t 8 0 < 40) → ∃ v s' t' cur', (some (-1, s0) : Ro) = some (v, s') ∧ SpUser t cur l1 l2 b1 b2 b3 l6 v t' cur' ∧ RR t' d cur' lv s' ∧ OthC s s' := fun hn => ⟨_, _, _, _, rfl, Or.inr ⟨hn, rfl, rfl, rfl⟩, h0, hO⟩
  rcases hasc l1 (t 0 0) with ⟨i, hi, rfl⟩ | hno
  · rw [MP_yes hTR.1.1 hi (by omega), bnd_some, if_neg (by decide)]
    rcases hasc l2 (t 0 0) with ⟨j, hj, rfl⟩ | hno
    · rw [MP_yes hTR.1.1 hj (by omega), bnd_some, if_neg (by decide), hTR.1.2.2.1]
      by_cases h40 : t 8 0 < 40
      · rw [if_neg (show ¬ nI (t 8 0) = 40 from fun z => by have := (nI_lk 40 (by omega) (by omega)).mp z; omega)]
        simp only [inb_nI h40 (show 40 < 2147483648 by omega), hb1, hb2, hb3, if_true]
        rw [ix_nI (by omega), nn1]
        refine ⟨_, _, _, false, rfl, Or.inl ⟨i, j, rfl, rfl, hi, hj, h40, rfl, rfl, rfl⟩, h0.told ?_ (fun c hc => ?_) (fun q h1 h2 => ?_) (by simp [wr_at]), fun c hc => ?_⟩
        · obtain ⟨⟨a1, a2, a3, a4, a5⟩, a6, a7, a8, a9, a10, a11⟩ := hTR
          refine ⟨⟨?_, ?_, ?_, ?_, ?_⟩, ?_, ?_, ?_, ?_, ?_, ?_⟩
          · simpa [wr_at, up2, addU] using a1
          · simpa [wr_at, up2, addU] using a2
          · simp [wr_at, up2, addU, nI_succ]
          · simpa [wr_at, up2, addU] using a4
          · simpa [wr_at, up2, addU] using a5
          · simpa [wr_at, up2, addU] using a6
          · simpa [wr_at, up2, addU] using a7
          · simpa [wr_at, up2, addU] using a8
          · intro u hu
            have hu : u < t 8 0 + 1 := by simpa [up2, addU] using hu
            by_cases e : u = t 8 0
            · subst e
              simp [wr_at, up2, addU]
              refine ⟨(ix_isb hb1).1, (ix_isb hb2).1, (ix_isb hb3).1, fun b hb => ?_⟩
              rw [show (8 * t 8 0 + b) / 8 = t 8 0 by omega, show b % 8 = b by omega]
              cases bt l6 b <;> simp
            · simp [wr_at, up2, addU, e]
              obtain ⟨k1, k2, k3, k4, k5, k6⟩ := a9 u (by omega)
              refine ⟨k1, k2, k3, k4, k5, fun b hb => ?_⟩
              have hne : ¬ (8 * u + b) / 8 = t 8 0 := by omega
              rw [k6 b hb, if_neg hne]
          · simpa [wr_at, up2, addU] using a10
          · simpa [wr_at, up2, addU] using a11
        · simp only [wr_c _ _ _ (show c ≠ 31 by omega), wr_c _ _ _ (show c ≠ 39 by omega), wr_c _ _ _ (show c ≠ 40 by omega), wr_c _ _ _ (show c ≠ 41 by omega), wr_c _ _ _ (show c ≠ 42 by omega), wr_c _ _ _ (show c ≠ 43 by omega), wr_c _ _ _ (show c ≠ 44 by omega)]
        · rw [wr_k _ _ _ h2, wr_k _ _ _ (by omega), wr_c _ _ _ (by omega), wr_c _ _ _ (by omega), wr_c _ _ _ (by omega), wr_c _ _ _ (by omega), wr_c _ _ _ (by omega), wr_c _ _ _ (by omega)]
        · simp only [wr_c _ _ _ (show c ≠ 31 by omega), wr_c _ _ _ (show c ≠ 39 by omega), wr_c _ _ _ (show c ≠ 40 by omega), wr_c _ _ _ (show c ≠ 41 by omega), wr_c _ _ _ (show c ≠ 42 by omega), wr_c _ _ _ (show c ≠ 43 by omega), wr_c _ _ _ (show c ≠ 44 by omega)]
          exact hO c hc
      · rw [if_pos (show nI (t 8 0) = 40 from (nI_lk 40 (by omega) (by omega)).mpr (by omega))]
        refine no ?_
        rintro ⟨i', j', g1, g2, g3, g4, g5⟩
        exact h40 g5
    · rw [MP_no hTR.1.1 (by omega) hno, bnd_some, if_pos rfl]
      refine no ?_
      rintro ⟨i', j', g1, g2, g3, g4, g5⟩
      exact hno j' g4 g2
  · rw [MP_no hTR.1.1 (by omega) hno, bnd_some, if_pos rfl]
    refine no ?_
    rintro ⟨i', j', g1, g2, g3, g4, g5⟩
    exact hno i' g3 g1
end Rt
