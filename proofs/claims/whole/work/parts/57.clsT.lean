section TlB
variable {t d : Dt} {cur : Bool} {lv : List Nat} {s : Sg}
theorem C_feature (hT : DOk t) (h : CR t d cur lv s) (l1 l2 l4 : Int32) {b : Int32} (hb : isb b = true) : ∃ v s' t' cur', f_FU_feature l1 l2 b l4 s = some (v, s') ∧ SpFeat t cur l1 l2 b l4 v t' cur' ∧ CR t' d cur' lv s' ∧ Oth s s' := by
  have hPn := hT.1
  have hFn := hT.2.1
  have hTC := h.1
  unfold f_FU_feature
  have no : (¬ ∃ i j k, l1 = nI i ∧ l2 = nI j ∧ l4 = nI k ∧ FC t i j k) → ∃ v s' t' cur', (some (-1, s) : Ro) = some (v, s') ∧ SpFeat t cur l1 l2 b l4 v t' cur' ∧ CR t' d cur' lv s' ∧ Oth s s' := fun hn => ⟨_, _, _, _, rfl, Or.inr ⟨hn, rfl, rfl, rfl⟩, h, fun _ _ => rfl⟩
  rcases hasc l1 (t 0 0) with ⟨i, hi, rfl⟩ | hno
  · rw [Phas_yes hTC.1.1 hi (by omega), bnd_some, if_neg (by decide)]
    rcases hasc l2 32 with ⟨j, hj, rfl⟩ | hno
    · have e2 : f_FU_within (nI j) 32 s = some (1, s) := within_yes (n := 32) hj (by omega) s
      rw [e2, bnd_some, if_neg (by decide)]
      rcases hasc l4 8 with ⟨k, hk, rfl⟩ | hno
      · have e3 : f_FU_within (nI k) 8 s = some (1, s) := within_yes (n := 8) hk (by omega) s
        rw [e3, bnd_some, if_neg (by decide)]
        rcases F_ffind hT hTC (p := i) (by omega) (nI j) with ⟨f, hf, a1, a2, e4⟩ | ⟨hnf, e4⟩
        · have h6 := (hT.2.2.2.2.1 f hf).2
          rw [e4, bnd_some, if_neg (nI_m1 (by omega))]
          refine no ?_
          rintro ⟨i', j', k', g1, g2, g3, g4⟩
          have := nI_inj (by omega) (by have := g4.1; omega) g1
          have h7 := nI_inj (by omega) (by have := g4.2.1; omega) g2
          have h8 := nI_inj (by omega) (by omega) a2
          exact g4.2.2.2.1 f hf (by omega) (by omega)
        · rw [e4, bnd_some, if_pos rfl, F_fcount hT hTC (by omega), bnd_some]
          have hlen := sel_len (fun f => decide (t 5 f = i)) (t 4 0)
          by_cases h10 : (sel (fun f => decide (t 5 f = i)) (t 4 0)).length < 10
          · rw [if_neg (show ¬ (10 : Int32) ≤ nI _ from fun e => by have := (nI_leI (a := 10) (by omega) (by omega)).mp e; omega), hTC.1.2.1]
            by_cases h60 : t 4 0 < 60
            · rw [if_pos (show nI (t 4 0) < 60 from (nI_ltI (b := 60) (by omega) (by omega)).mpr h60)]
              unfold f_Feats_add
              have e10 : wr s 0 10 0 3 0 = nI (t 4 0) := by rw [wr_c _ _ _ (by omega)]; exact hTC.1.2.1
              rw [e10, if_pos (inb_nI h60 (by omega)), if_pos (inb_nI h60 (by omega)), if_pos (inb_nI h60 (by omega)), if_pos (inb_nI h60 (by omega)), if_pos hb, bnd_some, ix_nI (by omega), nn1]
              have hFC : FC t i j k := ⟨hi, hj, hk, fun f hf h5 z => hnf f hf h5 (by rw [z]), h10, h60⟩
              refine ⟨_, _, _, false, rfl, Or.inl ⟨i, j, k, rfl, rfl, rfl, hFC, rfl, rfl, rfl⟩, h.told ?_ (fun c hc => ?_) (by simp [wr_at]) (by simp [wr_at]), fun c hc => ?_⟩
              · obtain ⟨⟨a1, a2, a3, a4⟩, a5, a6, a7, a8, a9, a10⟩ := hTC
                refine ⟨⟨?_, ?_, ?_, ?_⟩, ?_, ?_, ?_, ?_, ?_, ?_⟩
                · simpa [wr_at, up2, addF] using a1
                · simp [wr_at, up2, addF, nI_succ]
                · simpa [wr_at, up2, addF] using a3
                · simpa [wr_at, up2, addF] using a4
                · simpa [wr_at, up2, addF] using a5
                · simpa [wr_at, up2, addF] using a6
                · intro f hf
                  have hf : f < t 4 0 + 1 := by simpa [up2, addF] using hf
                  by_cases e : f = t 4 0
                  · subst e
                    simp [wr_at, up2, addF]
                    exact (ix_isb hb).1
                  · simp [wr_at, up2, addF, e]
                    exact a7 f (by omega)
                · simpa [wr_at, up2, addF] using a8
                · simpa [wr_at, up2, addF] using a9
                · simpa [wr_at, up2, addF] using a10
              · simp only [wr_c _ _ _ (show c ≠ 3 by omega), wr_c _ _ _ (show c ≠ 7 by omega), wr_c _ _ _ (show c ≠ 6 by omega), wr_c _ _ _ (show c ≠ 5 by omega), wr_c _ _ _ (show c ≠ 4 by omega), wr_c _ _ _ (show c ≠ 0 by omega)]
              · simp only [wr_c _ _ _ (show c ≠ 3 by omega), wr_c _ _ _ (show c ≠ 7 by omega), wr_c _ _ _ (show c ≠ 6 by omega), wr_c _ _ _ (show c ≠ 5 by omega), wr_c _ _ _ (show c ≠ 4 by omega), wr_c _ _ _ (show c ≠ 0 by omega)]
            · rw [if_neg (show ¬ nI (t 4 0) < 60 from fun e => h60 ((nI_ltI (b := 60) (by omega) (by omega)).mp e))]
              refine no ?_
              rintro ⟨i', j', k', g1, g2, g3, g4⟩
              exact h60 g4.2.2.2.2.2
          · rw [if_pos (show (10 : Int32) ≤ nI _ from (nI_leI (a := 10) (by omega) (by omega)).mpr (by omega))]
            refine no ?_
            rintro ⟨i', j', k', g1, g2, g3, g4⟩
            have := nI_inj (by omega) (by have := g4.1; omega) g1
            subst this
            exact h10 g4.2.2.2.2.1
      · have e3 : f_FU_within l4 8 s = some (0, s) := within_no (n := 8) (by omega) hno s
        rw [e3, bnd_some, if_pos rfl]
        refine no ?_
        rintro ⟨i', j', k', g1, g2, g3, g4⟩
        exact hno k' g4.2.2.1 g3
    · have e2 : f_FU_within l2 32 s = some (0, s) := within_no (n := 32) (by omega) hno s
      rw [e2, bnd_some, if_pos rfl]
      refine no ?_
      rintro ⟨i', j', k', g1, g2, g3, g4⟩
      exact hno j' g4.2.1 g2
  · rw [Phas_no hTC.1.1 (by omega) hno, bnd_some, if_pos rfl]
    refine no ?_
    rintro ⟨i', j', k', g1, g2, g3, g4⟩
    exact hno i' g4.1 g1
theorem C_root (hT : DOk t) (h : CR t d cur lv s) (l1 : Int32) {b : Int32} (hb : isb b = true) (h2 : ∀ p, t 2 p = 1 → t 1 p = 1) : ∃ v s' t' cur', f_FU_root l1 b s = some (v, s') ∧ SpRoot t cur l1 b v t' cur' ∧ CR t' d cur' lv s' ∧ Oth s s' := by
  have hPn := hT.1
  have hTC := h.1
  unfold f_FU_root
  rcases hasc l1 (t 0 0) with ⟨i, hi, rfl⟩ | hno
  · rw [Phas_yes hTC.1.1 hi (by omega), bnd_some, if_neg (by decide)]
    have hbt := (hTC.2.1 i (by omega)).1
    by_cases h1 : t 1 i = 1
    · rw [F_bit_t (by omega) (by rw [hbt]; simp [h1]), bnd_some, if_neg (by decide)]
      refine ⟨_, _, _, _, rfl, Or.inr ⟨fun i' g1 g2 => ?_, rfl, rfl, rfl⟩, h, fun _ _ => rfl⟩
      have := nI_inj (by omega) (by omega) g1
      subst this
      exact h1
    · rw [F_bit_f (by omega) (by rw [hbt]; simp [h1]), bnd_some, if_pos rfl]
      have hw1 : wr s 0 10 0 1 = s 1 := wr_c _ _ _ (by omega)
      have key : ∀ s' : Sg, (∀ c, c ≠ 1 → c ≠ 0 → s' c = s c) → s' 0 9 = s 0 9 → s' 0 10 = 0 → (∀ k, k ≠ 1 → k ≠ 2 → s' 1 k = s 1 k) → (∀ p, p < 10 → bt (s' 1 1) p = (bt (s 1 1) p || decide (p = i))) → (∀ p, p < 10 → bt (s' 1 2) p = decide (up2 (up2 t 1 i 1) 2 i (ix b) 2 p = 1)) → ∃ v s'' t' cur', (some (1, s') : Ro) = some (v, s'') ∧ SpRoot t cur (nI i) b v t' cur' ∧ CR t' d cur' lv s'' ∧ Oth s s'' := by
        intro s' k1 k2 k3 k4 k5 k6
        refine ⟨_, _, _, false, rfl, Or.inl ⟨i, rfl, hi, h1, rfl, rfl, rfl⟩, h.told ?_ (fun c hc => k1 c (by omega) (by omega)) k2 k3, fun c hc => k1 c (by omega) (by omega)⟩
        obtain ⟨⟨a1, a2, a3, a4⟩, a5, a6, a7, a8, a9, a10⟩ := hTC
        refine ⟨⟨?_, ?_, ?_, ?_⟩, fun p hp => ⟨?_, k6 p hp⟩, ?_, ?_, ?_, ?_, ?_⟩
        · rw [k4 0 (by omega) (by omega)]; simpa [up2] using a1
        · rw [k1 3 (by omega) (by omega)]; simpa [up2] using a2
        · rw [k1 8 (by omega) (by omega)]; simpa [up2] using a3
        · rw [k1 16 (by omega) (by omega)]; simpa [up2] using a4
        · rw [k5 p hp, (a5 p hp).1]
          by_cases e : p = i
          · simp [up2, e]
          · simp [up2, e]
        · rw [k1 2 (by omega) (by omega)]; simpa [up2] using a6
        · rw [k1 4 (by omega) (by omega), k1 5 (by omega) (by omega), k1 6 (by omega) (by omega), k1 7 (by omega) (by omega)]; simpa [up2] using a7
        · rw [k1 9 (by omega) (by omega), k1 10 (by omega) (by omega), k1 13 (by omega) (by omega), k1 14 (by omega) (by omega), k1 15 (by omega) (by omega), k1 11 (by omega) (by omega)]; simpa [up2] using a8
        · rw [k1 12 (by omega) (by omega)]; simpa [up2] using a9
        · rw [k1 17 (by omega) (by omega), k1 18 (by omega) (by omega), k1 19 (by omega) (by omega), k1 20 (by omega) (by omega)]; simpa [up2] using a10
      unfold f_Packs_makeRoot
      rw [hw1]
      have hb2 : ∀ p, p < 10 → bt (s 1 2) p = decide (t 2 p = 1) := fun p hp => (hTC.2.1 p hp).2
      rcases isb_or hb with rfl | rfl
      · rw [if_pos rfl, bnd_some]
        refine key _ (fun c e1 e0 => by rw [wr_c _ _ _ e1, wr_c _ _ _ e0]) (by simp [wr_at]) (by simp [wr_at]) (fun k e1 e2 => by simp [wr_at, e1]) (fun p hp => ?_) (fun p hp => ?_)
        · rw [wr_s, bt_or1 _ (by omega) (by omega)]
        · have e2 : wr (wr s 0 10 0) 1 1 (s 1 1 ||| 1 <<< (nI i &&& 31)) 1 2 = s 1 2 := by simp [wr_at]
          rw [e2, hb2 p hp]
          by_cases e : p = i
          · subst e
            have : t 2 p ≠ 1 := fun z => h1 (h2 p z)
            have h0 : ix 0 = 0 := by decide
            simp [up2, this, h0]
          · simp [up2, e]
      · rw [if_neg (by decide), bnd_some]
        refine key _ (fun c e1 e0 => by rw [wr_c _ _ _ e1, wr_c _ _ _ e1, wr_c _ _ _ e0]) (by simp [wr_at]) (by simp [wr_at]) (fun k e1 e2 => by simp [wr_at, e1, e2]) (fun p hp => ?_) (fun p hp => ?_)
        · have e2 : wr (wr (wr s 0 10 0) 1 1 (s 1 1 ||| 1 <<< (nI i &&& 31))) 1 2 (s 1 2 ||| 1 <<< (nI i &&& 31)) 1 1 = s 1 1 ||| 1 <<< (nI i &&& 31) := by simp [wr_at]
          rw [e2, bt_or1 _ (by omega) (by omega)]
        · rw [wr_s, bt_or1 _ (by omega) (by omega), hb2 p hp]
          have h0 : ix 1 = 1 := by decide
          by_cases e : p = i
          · simp [up2, e, h0]
          · simp [up2, e]
  · rw [Phas_no hTC.1.1 (by omega) hno, bnd_some, if_pos rfl]
    exact ⟨_, _, _, _, rfl, Or.inr ⟨fun i' g1 g2 => absurd g1 (hno i' g2), rfl, rfl, rfl⟩, h, fun _ _ => rfl⟩
end TlB
