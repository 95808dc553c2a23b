section Ru
variable {t d : Dt} {cur : Bool} {lv : List Nat} {s : Sg}
theorem M_ask0 {n : Nat} {a b : Nat → Nat} (hA : n ≤ 400) (hB : ∀ k, k < n → s 45 k = nI (a k) ∧ s 46 k = nI (b k) ∧ a k < 2147483648 ∧ b k < 2147483648) {u f : Nat} (hu : u < 2147483648) (hf : f < 2147483648) : (∃ k, k < n ∧ a k = u ∧ b k = f ∧ f_Mod_asking (nI u) (nI f) (nI n) s = some (nI k, s)) ∨ ((∀ k, k < n → ¬ (a k = u ∧ b k = f)) ∧ f_Mod_asking (nI u) (nI f) (nI n) s = some (-1, s)) := by
  unfold f_Mod_asking f_Mod_asking_6
  refine itr2_run (N := n) (I := fun k z y s1 => y = nI k ∧ s1 = s ∧ ((∃ j, j < k ∧ a j = u ∧ b j = f ∧ z = nI j) ∨ ((∀ j, j < k → ¬ (a j = u ∧ b j = f)) ∧ z = -1))) (E := fun o => (∃ k, k < n ∧ a k = u ∧ b k = f ∧ o = some (nI k, s)) ∨ ((∀ k, k < n → ¬ (a k = u ∧ b k = f)) ∧ o = some (-1, s))) ?_ ?_ n 4096 0 _ 0 s (by omega) (by omega) ⟨nI_0.symm, rfl, Or.inr ⟨fun j hj => absurd hj (Nat.not_lt_zero _), rfl⟩⟩
  · rintro rec k z y s1 hk ⟨rfl, rfl, ha⟩
    obtain ⟨b1, b2, b3, b4⟩ := hB k hk
    refine Or.inl ?_
    rw [if_neg (fun z => by have := (nI_leI (by omega) (by omega)).mp z; omega), if_pos (inb_nI (by omega) (by omega)), ix_nI (by omega), b1, b2, ← nI_succ]
    have keep : ¬ (a k = u ∧ b k = f) → ∃ (y1 y2 : Int32) (s' : Sg), (y2 = nI (k + 1) ∧ s' = s1 ∧ ((∃ j, j < k + 1 ∧ a j = u ∧ b j = f ∧ y1 = nI j) ∨ ((∀ j, j < k + 1 → ¬ (a j = u ∧ b j = f)) ∧ y1 = -1))) ∧ rec z (nI (k + 1)) s1 = rec y1 y2 s' := by
      intro hn
      refine ⟨_, _, _, ⟨rfl, rfl, ?_⟩, rfl⟩
      rcases ha with ⟨j, hj, c1, c2, c3⟩ | ⟨c1, c2⟩
      · exact Or.inl ⟨j, by omega, c1, c2, c3⟩
      · refine Or.inr ⟨fun j hj => ?_, c2⟩
        by_cases ej : j = k
        · subst ej; exact hn
        · exact c1 j (by omega)
    by_cases h1 : a k = u
    · rw [if_pos (by rw [h1]), if_pos (inb_nI (by omega) (by omega))]
      by_cases h2 : b k = f
      · rw [if_pos (by rw [h2])]
        exact ⟨_, _, _, ⟨rfl, rfl, Or.inl ⟨k, by omega, h1, h2, rfl⟩⟩, rfl⟩
      · rw [if_neg (fun z => h2 (nI_inj b4 hf z))]
        exact keep (fun z => h2 z.2)
    · rw [if_neg (fun z => h1 (nI_inj b3 hu z))]
      exact keep (fun z => h1 z.1)
  · rintro rec z y s1 ⟨rfl, rfl, ha⟩
    rw [if_pos ((nI_leI (by omega) (by omega)).mpr (Nat.le_refl _))]
    rcases ha with ⟨j, hj, c1, c2, c3⟩ | ⟨c1, c2⟩
    · exact Or.inl ⟨j, hj, c1, c2, by rw [c3]⟩
    · exact Or.inr ⟨c1, by rw [c2]⟩
/-- a feature's place among those of its package -/
def rank (t : Dt) (f : Nat) : Nat := (sel (fun g => decide (t 5 g = t 5 f)) f).length
theorem rank_lt (hF : Few t) {f : Nat} (hf : f < t 4 0) : rank t f < 10 := by
  have h1 := sel_mono (fun g => decide (t 5 g = t 5 f)) (k := f + 1) (t 4 0) (by omega)
  rw [sel_yes (by simp), List.length_append] at h1
  have h1 : (sel (fun g => decide (t 5 g = t 5 f)) f).length + 1 ≤ _ := h1
  have h2 := hF (t 5 f)
  unfold rank
  omega
theorem rank_inj {f g : Nat} (h5 : t 5 f = t 5 g) (h : rank t f = rank t g) : f = g := by
  have key : ∀ a b, a < b → t 5 a = t 5 b → rank t a < rank t b := by
    intro a b hab e
    unfold rank
    rw [← e]
    have h1 := sel_mono (fun g => decide (t 5 g = t 5 a)) (k := a + 1) b (by omega)
    rw [sel_yes (by simp), List.length_append] at h1
    exact h1
  rcases Nat.lt_trichotomy f g with z | z | z
  · have := key f g z h5; omega
  · exact z
  · have := key g f z h5.symm; omega
theorem Ask_lt (hT : TOk t) {u f : Nat} (hu : u < t 8 0) (hf : f < t 4 0) (h5 : t 5 f = t 10 u) (hno : ∀ k, k < t 24 0 → ¬ (t 22 k = u ∧ t 23 k = f)) : t 24 0 < 400 := by
  have hUn := hT.1.2.2.1
  obtain ⟨-, hA, hI, -⟩ := hT.2.2.2.1
  have hFew := hT.2.2.2.2.1
  have cinj : ∀ u f u' f', f < t 4 0 → f' < t 4 0 → t 5 f = t 10 u → t 5 f' = t 10 u' → 10 * u + rank t f = 10 * u' + rank t f' → u = u' ∧ f = f' := by
    intro u f u' f' a1 a2 a3 a4 a5
    have r1 := rank_lt hFew a1
    have r2 := rank_lt hFew a2
    have hu : u = u' := by omega
    subst hu
    exact ⟨rfl, rank_inj (t := t) (a3.trans a4.symm) (by omega)⟩
  have key : ∀ m, m ≤ t 24 0 → ∃ h : Nat → Nat, cnt h 400 = m ∧ ∀ c, h c ≠ 0 ↔ ∃ k, k < m ∧ 10 * t 22 k + rank t (t 23 k) = c := by
    intro m
    induction m with
    | zero => exact fun _ => ⟨fun _ => 0, cnt_zero 400 (fun _ _ => rfl), fun c => ⟨fun z => absurd rfl z, fun ⟨k, hk, _⟩ => absurd hk (Nat.not_lt_zero _)⟩⟩
    | succ m ih =>
      intro hm
      obtain ⟨h, h1, h2⟩ := ih (by omega)
      obtain ⟨a1, a2, a3⟩ := hA m (by omega)
      have h0 : h (10 * t 22 m + rank t (t 23 m)) = 0 := by
        rcases Nat.eq_zero_or_pos (h (10 * t 22 m + rank t (t 23 m))) with z | z
        · exact z
        · obtain ⟨k, hk, e⟩ := (h2 (10 * t 22 m + rank t (t 23 m))).mp (by omega)
          obtain ⟨b1, b2, b3⟩ := hA k (by omega)
          obtain ⟨c1, c2⟩ := cinj _ _ _ _ b2 a2 b3 a3 e
          have := hI k m (by omega) (by omega) c1 c2
          omega
      have hr := rank_lt hFew a2
      refine ⟨updN h (10 * t 22 m + rank t (t 23 m)) 1, by rw [cnt_upd h h0 (by omega) 400 (by omega), h1], fun c => ?_⟩
      by_cases e : c = 10 * t 22 m + rank t (t 23 m)
      · rw [e, updN_s]
        exact ⟨fun _ => ⟨m, by omega, rfl⟩, fun _ => by omega⟩
      · rw [updN_n _ _ e, h2 c]
        constructor
        · rintro ⟨k, hk, z⟩
          exact ⟨k, by omega, z⟩
        · rintro ⟨k, hk, z⟩
          by_cases ek : k = m
          · subst ek; exact absurd z.symm e
          · exact ⟨k, by omega, z⟩
  obtain ⟨h, h1, h2⟩ := key (t 24 0) (Nat.le_refl _)
  have hr := rank_lt hFew hf
  have h0 : h (10 * u + rank t f) = 0 := by
    rcases Nat.eq_zero_or_pos (h (10 * u + rank t f)) with z | z
    · exact z
    · obtain ⟨k, hk, e⟩ := (h2 (10 * u + rank t f)).mp (by omega)
      obtain ⟨b1, b2, b3⟩ := hA k hk
      obtain ⟨c1, c2⟩ := cinj _ _ _ _ b2 hf b3 h5 e
      exact absurd ⟨c1, c2⟩ (hno k hk)
  have := cnt_lt h h0 400 (by omega)
  omega
theorem ask_iff (hT : TOk t) {u f : Nat} (hf : f < t 4 0) (h5 : t 5 f = t 10 u) : (∃ k, k < t 24 0 ∧ t 22 k = u ∧ t 23 k = f) ↔ t 15 (32 * u + t 6 f) = 1 := by
  obtain ⟨-, hA, hI, hB⟩ := hT.2.2.2.1
  have h6 := (hT.1.2.2.2.2.1 f hf).2
  rw [hB u (t 6 f) h6]
  constructor
  · rintro ⟨k, hk, a, b⟩
    exact ⟨k, hk, a, by rw [b]⟩
  · rintro ⟨k, hk, a, b⟩
    obtain ⟨c1, c2, c3⟩ := hA k hk
    refine ⟨k, hk, a, hT.2.2.1 _ _ c2 hf ?_ b⟩
    rw [c3, a, h5]
theorem R_asks (hT : TOk t) (h : RR t d cur lv s) (l1 l2 : Int32) : ∃ v s' t' cur', f_Mod_asks l1 l2 s = some (v, s') ∧ SpAsk t cur l1 l2 v t' cur' ∧ RR t' d cur' lv s' ∧ OthC s s' := by
  have hPn := hT.1.1
  have hFn := hT.1.2.1
  have hUn := hT.1.2.2.1
  have h0 := h.code 0
  have hO := OthC.code s 0
  unfold f_Mod_asks
  generalize wr s 31 0 0 = s0 at h0 hO
  have hTR := h0.1
  obtain ⟨hA4, hA, hI, hB⟩ := id hT.2.2.2.1
  rcases hasc l1 (t 8 0) with ⟨u, hu, rfl⟩ | hno
  · have h10 := (hT.1.2.2.2.2.2.1 u hu).2
    rw [MU_yes hTR.1.2.2.1 hu (by omega), bnd_some, if_neg (by decide), if_pos (inb_nI (by omega) (by omega)), ix_nI (by omega), (hTR.2.2.2.2.1 u hu).2.1]
    rcases M_named hT.1 hTR (p := t 10 u) (by omega) l2 with ⟨f, hf, a1, rfl, e4⟩ | ⟨hnf, e4⟩
    · have h6 := (hT.1.2.2.2.2.1 f hf).2
      rw [e4, bnd_some, if_neg (nI_m1 (by omega)), hTR.1.2.2.2.1]
      have hai := ask_iff hT hf a1
      rcases M_ask0 (s := s0) (n := t 24 0) (a := t 22) (b := t 23) hA4 (fun k hk => ⟨(hTR.2.2.2.2.2.1 k hk).1, (hTR.2.2.2.2.2.1 k hk).2, by have := (hA k hk).1; omega, by have := (hA k hk).2.1; omega⟩) (u := u) (f := f) (by omega) (by omega) with ⟨k, hk, b1, b2, ek⟩ | ⟨hnk, ek⟩
      · rw [ek, bnd_some, if_neg (nI_m1 (by omega))]
        exact ⟨_, _, _, _, rfl, Or.inr ⟨u, hu, rfl, Or.inr ⟨f, hf, a1, rfl, Or.inl ⟨hai.mp ⟨k, hk, b1, b2⟩, rfl, rfl, rfl⟩⟩⟩, h0, hO⟩
      · have h400 := Ask_lt hT hu hf a1 hnk
        have h15 : t 15 (32 * u + t 6 f) ≠ 1 := fun z => by
          obtain ⟨k, hk, b1, b2⟩ := hai.mpr z
          exact hnk k hk ⟨b1, b2⟩
        rw [ek, bnd_some, if_pos rfl, hTR.1.2.2.2.1, if_pos (inb_nI h400 (by omega)), if_pos (inb_nI h400 (by omega)), ix_nI (by omega)]
        refine ⟨_, _, _, false, rfl, Or.inr ⟨u, hu, rfl, Or.inr ⟨f, hf, a1, rfl, Or.inr ⟨h15, rfl, rfl, rfl⟩⟩⟩, h0.told ?_ (fun c hc => ?_) (fun q h1 h2 => ?_) (by simp [wr_at]), fun c hc => ?_⟩
        · obtain ⟨⟨a1, a2, a3, a4, a5⟩, a6, a7, a8, a9, a10, a11⟩ := hTR
          refine ⟨⟨?_, ?_, ?_, ?_, ?_⟩, ?_, ?_, ?_, ?_, ?_, ?_⟩
          · simpa [wr_at, up2, addA] using a1
          · simpa [wr_at, up2, addA] using a2
          · simpa [wr_at, up2, addA] using a3
          · simp [wr_at, up2, addA, nI_succ]
          · simpa [wr_at, up2, addA] using a5
          · simpa [wr_at, up2, addA] using a6
          · simpa [wr_at, up2, addA] using a7
          · simpa [wr_at, up2, addA] using a8
          · simpa [wr_at, up2, addA] using a9
          · intro k hk
            have hk : k < t 24 0 + 1 := by simpa [up2, addA] using hk
            by_cases e : k = t 24 0
            · subst e
              simp [wr_at, up2, addA]
            · simp [wr_at, up2, addA, e]
              exact a10 k (by omega)
          · simpa [wr_at, up2, addA] using a11
        · simp only [wr_c _ _ _ (show c ≠ 31 by omega), wr_c _ _ _ (show c ≠ 45 by omega), wr_c _ _ _ (show c ≠ 46 by omega)]
        · rw [wr_k _ _ _ h2, wr_k _ _ _ (by omega), wr_c _ _ _ (by omega), wr_c _ _ _ (by omega)]
        · simp only [wr_c _ _ _ (show c ≠ 31 by omega), wr_c _ _ _ (show c ≠ 45 by omega), wr_c _ _ _ (show c ≠ 46 by omega)]
          exact hO c hc
    · rw [e4, bnd_some, if_pos rfl]
      exact ⟨_, _, _, _, rfl, Or.inr ⟨u, hu, rfl, Or.inl ⟨hnf, rfl, rfl, rfl⟩⟩, h0, hO⟩
  · rw [MU_no hTR.1.2.2.1 (by omega) hno, bnd_some, if_pos rfl]
    exact ⟨_, _, _, _, rfl, Or.inl ⟨hno, rfl, rfl, rfl⟩, h0, hO⟩
theorem R_turnAdd (hT : DOk t) (h : RR t d cur lv s) {l1 l2 l3 l4 : Int32} {f k u g : Nat} (hV : TV t l1 l2 l3 l4 f k u g) {y w : Int32} (hy1 : k = 1 → y = -1) (hy : k ≠ 1 → y = nI g) (hw : k ≠ 0 → w = nI u) : ∃ v s' t' cur', f_Mod_turn_135 l1 l2 w y s = some (v, s') ∧ SpTurn t cur l1 l2 l3 l4 v t' cur' ∧ RR t' d cur' lv s' ∧ (∀ c, c < 31 → s' c = s c) := by
  have hTn := hT.2.2.2.1
  have hTR := h.1
  have h60 := hV.2.2.2.2.1
  have hk4 := hV.2.2.2.1
  obtain ⟨g1, -, g3, -⟩ := id hV
  subst g1; subst g3
  unfold f_Mod_turn_135
  rw [hTR.1.2.2.2.2, if_pos (inb_nI h60 (by omega)), if_pos (inb_nI h60 (by omega)), ix_nI (by omega)]
  have key : ∀ w' : Int32, (k = 0 → w' = -1) → (k ≠ 0 → w' = nI u) → ∃ v s' t' cur', f_Mod_turn_172 y w' (nI (t 16 0)) (wr (wr s 47 (t 16 0) (nI f)) 48 (t 16 0) (nI k)) = some (v, s') ∧ SpTurn t cur (nI f) (nI k) l3 l4 v t' cur' ∧ RR t' d cur' lv s' ∧ (∀ c, c < 31 → s' c = s c) := by
    intro w' hw0 hw1
    unfold f_Mod_turn_172
    have e5 : wr (wr s 47 (t 16 0) (nI f)) 48 (t 16 0) (nI k) 31 5 = nI (t 16 0) := by rw [wr_c _ _ _ (by omega), wr_c _ _ _ (by omega)]; exact hTR.1.2.2.2.2
    rw [e5, if_pos (inb_nI h60 (by omega)), if_pos (inb_nI h60 (by omega)), ix_nI (by omega), nn1]
    refine ⟨_, _, _, false, rfl, Or.inl ⟨f, k, u, g, hV, rfl, rfl, rfl⟩, h.told ?_ (fun c hc => ?_) (fun q h1 h2 => ?_) (by simp [wr_at]), fun c hc => ?_⟩
    · obtain ⟨⟨a1, a2, a3, a4, a5⟩, a6, a7, a8, a9, a10, a11⟩ := hTR
      refine ⟨⟨?_, ?_, ?_, ?_, ?_⟩, ?_, ?_, ?_, ?_, ?_, ?_⟩
      · simpa [wr_at, up2, addT] using a1
      · simpa [wr_at, up2, addT] using a2
      · simpa [wr_at, up2, addT] using a3
      · simpa [wr_at, up2, addT] using a4
      · simp [wr_at, up2, addT, nI_succ]
      · simpa [wr_at, up2, addT] using a6
      · simpa [wr_at, up2, addT] using a7
      · simpa [wr_at, up2, addT] using a8
      · simpa [wr_at, up2, addT] using a9
      · simpa [wr_at, up2, addT] using a10
      · intro r hr
        have hr : r < t 16 0 + 1 := by simpa [up2, addT] using hr
        by_cases e : r = t 16 0
        · subst e
          simp [wr_at, up2, addT]
          exact ⟨hw1, hw0, hy, hy1⟩
        · simp [wr_at, up2, addT, e]
          exact a11 r (by omega)
    · simp only [wr_c _ _ _ (show c ≠ 31 by omega), wr_c _ _ _ (show c ≠ 47 by omega), wr_c _ _ _ (show c ≠ 48 by omega), wr_c _ _ _ (show c ≠ 49 by omega), wr_c _ _ _ (show c ≠ 50 by omega)]
    · rw [wr_k _ _ _ h2, wr_k _ _ _ (by omega), wr_c _ _ _ (by omega), wr_c _ _ _ (by omega), wr_c _ _ _ (by omega), wr_c _ _ _ (by omega)]
    · simp only [wr_c _ _ _ (show c ≠ 31 by omega), wr_c _ _ _ (show c ≠ 47 by omega), wr_c _ _ _ (show c ≠ 48 by omega), wr_c _ _ _ (show c ≠ 49 by omega), wr_c _ _ _ (show c ≠ 50 by omega)]
  by_cases hk0 : k = 0
  · rw [if_pos ((nI_l0 (by omega)).mpr hk0)]
    exact key (-1) (fun _ => rfl) (fun z => absurd hk0 z)
  · rw [if_neg (fun z => hk0 ((nI_l0 (by omega)).mp z))]
    exact key w (fun z => absurd z hk0) hw
theorem R_turn (hT : TOk t) (h : RR t d cur lv s) (l1 l2 l3 l4 : Int32) : ∃ v s' t' cur', f_Mod_turn l1 l2 l3 l4 s = some (v, s') ∧ SpTurn t cur l1 l2 l3 l4 v t' cur' ∧ RR t' d cur' lv s' ∧ OthC s s' := by
  obtain ⟨hD, hF, hN, -⟩ := hT
  have hPn := hD.1
  have hFn := hD.2.1
  have hUn := hD.2.2.1
  have hTn := hD.2.2.2.1
  have h0 := h.code 0
  have hO := OthC.code s 0
  unfold f_Mod_turn
  generalize wr s 31 0 0 = s0 at h0 hO
  have hTR := h0.1
  have no : (∀ f k u g, ¬ TV t l1 l2 l3 l4 f k u g) → ∃ v s' t' cur', (some (-1, s0) : Ro) = some (v, s') ∧ SpTurn t cur l1 l2 l3 l4 v t' cur' ∧ RR t' d cur' lv s' ∧ OthC s s' := fun hn => ⟨_, _, _, _, rfl, Or.inr ⟨hn, rfl, rfl, rfl⟩, h0, hO⟩
  have add : ∀ {f k u g : Nat} {y w : Int32}, TV t l1 l2 l3 l4 f k u g → (k = 1 → y = -1) → (k ≠ 1 → y = nI g) → (k ≠ 0 → w = nI u) → ∃ v s' t' cur', f_Mod_turn_135 l1 l2 w y s0 = some (v, s') ∧ SpTurn t cur l1 l2 l3 l4 v t' cur' ∧ RR t' d cur' lv s' ∧ OthC s s' := by
    intro f k u g y w hV a b c
    obtain ⟨v, s', t', cur', e1, e2, e3, e4⟩ := R_turnAdd hD h0 hV a b c
    exact ⟨v, s', t', cur', e1, e2, e3, fun c hc => (e4 c hc).trans (hO c hc)⟩
  rcases hasc l1 (t 4 0) with ⟨f, hf, rfl⟩ | hno
  · have h5 := hD.2.2.2.2.1 f hf
    rw [MF_yes hTR.1.2.1 hf (by omega), bnd_some, if_neg (by decide)]
    by_cases n0 : l2 < 0
    · rw [if_pos n0]
      refine no (fun f k u g z => ?_)
      rw [z.2.2.1] at n0
      exact nI_pos (by have := z.2.2.2.1; omega) n0
    rw [if_neg n0]
    by_cases n1 : (3 : Int32) < l2
    · rw [if_pos n1]
      refine no (fun f k u g z => ?_)
      rw [z.2.2.1] at n1
      have hk := z.2.2.2.1
      have := (nI_ltI (a := 3) (by omega) (by omega)).mp n1
      omega
    rw [if_neg n1, hTR.1.2.2.2.2]
    obtain ⟨k, hk', rfl⟩ := nI_of_nn n0
    have hk : k < 4 := by
      rcases Nat.lt_or_ge k 4 with z | z
      · exact z
      · exact absurd (show (3 : Int32) < nI k from (nI_ltI (a := 3) (by omega) hk').mpr (by omega)) n1
    by_cases h60 : t 16 0 < 60
    · rw [if_neg (show ¬ nI (t 16 0) = 60 from fun z => by have := (nI_lk 60 (by omega) (by omega)).mp z; omega), if_pos (inb_nI (by omega) (by omega)), ix_nI (by omega), (hTR.2.2.2.1 f hf).1]
      by_cases hk0 : k = 0
      · subst hk0
        rw [if_pos (show nI 0 ≤ (0 : Int32) by decide)]
        unfold f_Mod_turn_64
        rw [if_neg (show ¬ nI 0 = (1 : Int32) by decide)]
        unfold f_Mod_turn_80
        rw [if_neg (show ¬ nI 0 = (1 : Int32) by decide), if_pos (show nI 0 = (0 : Int32) from rfl)]
        unfold f_Mod_turn_105
        rcases M_named hD hTR (p := t 5 f) (by omega) l4 with ⟨g, hg, a1, rfl, e4⟩ | ⟨hnf, e4⟩
        · rw [e4, bnd_some]
          unfold f_Mod_turn_110
          rw [if_neg (show ¬ nI 0 = (1 : Int32) by decide), if_neg (nI_m1 (by omega))]
          unfold f_Mod_turn_123
          rw [if_pos (show nI 0 = (0 : Int32) from rfl)]
          by_cases hgf : g = f
          · subst hgf
            rw [if_pos rfl]
            refine no ?_
            rintro f' k' u' g' ⟨b1, b2, b3, b4, b5, b6, b7, b8, b9⟩
            have c1 := nI_inj (by omega) (by omega) b1
            have c2 := nI_inj (by omega) (by omega) b3
            subst c1; subst c2
            obtain ⟨d1, d2, d3, d4⟩ := b9 (by omega)
            rw [if_pos rfl] at d2
            have d6 := (hD.2.2.2.2.1 g' d1).2
            have d7 := nI_inj (by omega) (by omega) d3
            exact d4 rfl (hN g' g d1 hg d2 d7.symm)
          · rw [if_neg (fun z => hgf (nI_inj (by omega) (by omega) z))]
            exact add (f := f) (k := 0) (u := 0) (g := g) ⟨rfl, hf, rfl, by omega, h60, fun _ => rfl, fun z => absurd rfl z, fun z => by omega, fun _ => ⟨hg, by rw [if_pos rfl]; exact a1, rfl, fun _ => hgf⟩⟩ (fun z => by omega) (fun _ => rfl) (fun z => absurd rfl z)
        · rw [e4, bnd_some]
          unfold f_Mod_turn_110
          rw [if_neg (show ¬ nI 0 = (1 : Int32) by decide), if_pos (show (-1 : Int32) = -1 from rfl)]
          refine no ?_
          rintro f' k' u' g' ⟨b1, b2, b3, b4, b5, b6, b7, b8, b9⟩
          have c1 := nI_inj (by omega) (by omega) b1
          have c2 := nI_inj (by omega) (by omega) b3
          subst c1; subst c2
          obtain ⟨d1, d2, d3, d4⟩ := b9 (by omega)
          rw [if_pos rfl] at d2
          exact hnf g' d1 d2 d3
      · rw [if_neg (show ¬ nI k ≤ (0 : Int32) from fun z => hk0 (by have := (nI_leI (b := 0) (by omega) (by omega)).mp z; omega))]
        rcases hasc l3 (t 8 0) with ⟨u, hu, rfl⟩ | hno
        · have h9 := hD.2.2.2.2.2.1 u hu
          have h13 := (hF.2.2 u hu).2.2
          have hsu := hTR.2.2.2.2.1 u hu
          rw [MU_yes hTR.1.2.2.1 hu (by omega), bnd_some, if_neg (by decide), if_pos (inb_nI (by omega) (by omega)), ix_nI (by omega), hsu.1]
          by_cases h95 : t 9 u = t 5 f
          · rw [if_pos (by rw [h95])]
            have rest : (k = 1 → t 13 u = 1) → ∃ v s' t' cur', f_Mod_turn_80 (nI f) (nI k) (nI u) l4 (nI (t 5 f)) s0 = some (v, s') ∧ SpTurn t cur (nI f) (nI k) (nI u) l4 v t' cur' ∧ RR t' d cur' lv s' ∧ OthC s s' := by
              intro hopt
              unfold f_Mod_turn_80
              by_cases h1 : k = 1
              · rw [if_pos ((nI_l1 (by omega)).mpr h1)]
                unfold f_Mod_turn_110
                rw [if_pos ((nI_l1 (by omega)).mpr h1)]
                unfold f_Mod_turn_123
                rw [if_neg (fun z => hk0 ((nI_l0 (by omega)).mp z))]
                exact add (f := f) (k := k) (u := u) (g := 0) ⟨rfl, hf, rfl, hk, h60, fun z => absurd z hk0, fun _ => ⟨rfl, hu, h95, hopt⟩, fun _ => rfl, fun z => absurd h1 z⟩ (fun _ => rfl) (fun z => absurd h1 z) (fun _ => rfl)
              · rw [if_neg (fun z => h1 ((nI_l1 (by omega)).mp z)), if_neg (fun z => hk0 ((nI_l0 (by omega)).mp z)), if_pos (inb_nI (by omega) (by omega)), ix_nI (by omega), hsu.2.1]
                unfold f_Mod_turn_105
                rcases M_named hD hTR (p := t 10 u) (by omega) l4 with ⟨g, hg, a1, rfl, e4⟩ | ⟨hnf, e4⟩
                · rw [e4, bnd_some]
                  unfold f_Mod_turn_110
                  rw [if_neg (fun z => h1 ((nI_l1 (by omega)).mp z)), if_neg (nI_m1 (by omega))]
                  unfold f_Mod_turn_123
                  rw [if_neg (fun z => hk0 ((nI_l0 (by omega)).mp z))]
                  exact add (f := f) (k := k) (u := u) (g := g) ⟨rfl, hf, rfl, hk, h60, fun z => absurd z hk0, fun _ => ⟨rfl, hu, h95, hopt⟩, fun z => absurd z h1, fun _ => ⟨hg, by rw [if_neg hk0]; exact a1, rfl, fun z => absurd z hk0⟩⟩ (fun z => absurd z h1) (fun _ => rfl) (fun _ => rfl)
                · rw [e4, bnd_some]
                  unfold f_Mod_turn_110
                  rw [if_neg (fun z => h1 ((nI_l1 (by omega)).mp z)), if_pos (show (-1 : Int32) = -1 from rfl)]
                  refine no ?_
                  rintro f' k' u' g' ⟨b1, b2, b3, b4, b5, b6, b7, b8, b9⟩
                  have c2 := nI_inj (by omega) (by omega) b3
                  subst c2
                  obtain ⟨d1, d2, d3, d4⟩ := b9 h1
                  obtain ⟨f1, f2, f3, f4⟩ := b7 hk0
                  have c3 := nI_inj (by omega) (by omega) f1
                  subst c3
                  rw [if_neg hk0] at d2
                  exact hnf g' d1 d2 d3
            unfold f_Mod_turn_64
            by_cases h1 : k = 1
            · rw [if_pos ((nI_l1 (by omega)).mpr h1), if_pos (inb_nI (by omega) (by omega)), ix_nI (by omega), hsu.2.2.2.2.1]
              by_cases ho : t 13 u = 1
              · rw [if_neg (fun z => by have := (nI_l0 (by omega)).mp z; omega)]
                exact rest (fun _ => ho)
              · rw [if_pos ((nI_l0 (by omega)).mpr (by omega))]
                refine no ?_
                rintro f' k' u' g' ⟨b1, b2, b3, b4, b5, b6, b7, b8, b9⟩
                have c2 := nI_inj (by omega) (by omega) b3
                subst c2
                obtain ⟨f1, f2, f3, f4⟩ := b7 hk0
                have c3 := nI_inj (by omega) (by omega) f1
                subst c3
                exact ho (f4 h1)
            · rw [if_neg (fun z => h1 ((nI_l1 (by omega)).mp z))]
              exact rest (fun z => absurd z h1)
          · rw [if_neg (fun z => h95 (nI_inj (by omega) (by omega) z))]
            refine no ?_
            rintro f' k' u' g' ⟨b1, b2, b3, b4, b5, b6, b7, b8, b9⟩
            have c1 := nI_inj (by omega) (by omega) b1
            have c2 := nI_inj (by omega) (by omega) b3
            subst c1; subst c2
            obtain ⟨f1, f2, f3, f4⟩ := b7 hk0
            have c3 := nI_inj (by omega) (by omega) f1
            subst c3
            exact h95 f3
        · rw [MU_no hTR.1.2.2.1 (by omega) hno, bnd_some, if_pos rfl]
          refine no ?_
          rintro f' k' u' g' ⟨b1, b2, b3, b4, b5, b6, b7, b8, b9⟩
          have c2 := nI_inj (by omega) (by omega) b3
          subst c2
          exact hno u' (b7 hk0).2.1 (b7 hk0).1
    · rw [if_pos (show nI (t 16 0) = 60 from (nI_lk 60 (by omega) (by omega)).mpr (by omega))]
      exact no (fun f k u g z => h60 z.2.2.2.2.1)
  · rw [MF_no hTR.1.2.1 (by omega) hno, bnd_some, if_pos rfl]
    exact no (fun f k u g z => hno f z.2.1 z.1)
end Ru
