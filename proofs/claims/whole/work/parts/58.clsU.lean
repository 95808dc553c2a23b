section TlC
variable {t d : Dt} {cur : Bool} {lv : List Nat} {s : Sg}
theorem C_user (hT : DOk t) (h : CR t d cur lv s) (l1 l2 l6 : Int32) {b1 b2 b3 : Int32} (hb1 : isb b1 = true) (hb2 : isb b2 = true) (hb3 : isb b3 = true) : ∃ v s' t' cur', f_FU_user l1 l2 b1 b2 b3 l6 s = some (v, s') ∧ SpUser t cur l1 l2 b1 b2 b3 l6 v t' cur' ∧ CR t' d cur' lv s' ∧ Oth s s' := by
  have hPn := hT.1
  have hUn := hT.2.2.1
  have hTC := h.1
  unfold f_FU_user
  have no : (¬ ∃ i j, l1 = nI i ∧ l2 = nI j ∧ i < t 0 0 ∧ j < t 0 0 ∧ t 8 0 < 40) → ∃ v s' t' cur', (some (-1, s) : Ro) = some (v, s') ∧ SpUser t cur l1 l2 b1 b2 b3 l6 v t' cur' ∧ CR t' d cur' lv s' ∧ Oth s s' := fun hn => ⟨_, _, _, _, rfl, Or.inr ⟨hn, rfl, rfl, rfl⟩, h, fun _ _ => rfl⟩
  rcases hasc l1 (t 0 0) with ⟨i, hi, rfl⟩ | hno
  · rw [Phas_yes hTC.1.1 hi (by omega), bnd_some, if_neg (by decide)]
    rcases hasc l2 (t 0 0) with ⟨j, hj, rfl⟩ | hno
    · rw [Phas_yes hTC.1.1 hj (by omega), bnd_some, if_neg (by decide), hTC.1.2.2.1]
      by_cases h40 : t 8 0 < 40
      · rw [if_pos (show nI (t 8 0) < 40 from (nI_ltI (b := 40) (by omega) (by omega)).mpr h40)]
        unfold f_Users_add
        have e10 : wr s 0 10 0 8 0 = nI (t 8 0) := by rw [wr_c _ _ _ (by omega)]; exact hTC.1.2.2.1
        rw [e10]
        simp only [inb_nI h40 (show 40 < 2147483648 by omega), hb1, hb2, hb3, if_true]
        rw [bnd_some, ix_nI (by omega), nn1]
        refine ⟨_, _, _, false, rfl, Or.inl ⟨i, j, rfl, rfl, hi, hj, h40, rfl, rfl, rfl⟩, h.told ?_ (fun c hc => ?_) (by simp [wr_at]) (by simp [wr_at]), fun c hc => ?_⟩
        · obtain ⟨⟨a1, a2, a3, a4⟩, a5, a6, a7, a8, a9, a10⟩ := hTC
          refine ⟨⟨?_, ?_, ?_, ?_⟩, ?_, ?_, ?_, ?_, ?_, ?_⟩
          · simpa [wr_at, up2, addU] using a1
          · simpa [wr_at, up2, addU] using a2
          · simp [wr_at, up2, addU, nI_succ]
          · simpa [wr_at, up2, addU] using a4
          · simpa [wr_at, up2, addU] using a5
          · simpa [wr_at, up2, addU] using a6
          · simpa [wr_at, up2, addU] using a7
          · intro u hu
            have hu : u < t 8 0 + 1 := by simpa [up2, addU] using hu
            by_cases e : u = t 8 0
            · subst e
              simp [wr_at, up2, addU]
              refine ⟨(ix_isb hb1).1, (ix_isb hb2).1, (ix_isb hb3).1, fun b hb => ?_⟩
              rw [show (8 * t 8 0 + b) / 8 = t 8 0 by omega, show b % 8 = b by omega]
              cases bt l6 b <;> simp
            · simp [wr_at, up2, addU, e]
              obtain ⟨k1, k2, k3, k4, k5, k6⟩ := a8 u (by omega)
              refine ⟨k1, k2, k3, k4, k5, fun b hb => ?_⟩
              have hne : ¬ (8 * u + b) / 8 = t 8 0 := by omega
              rw [k6 b hb, if_neg hne]
          · simpa [wr_at, up2, addU] using a9
          · simpa [wr_at, up2, addU] using a10
        · simp only [wr_c _ _ _ (show c ≠ 8 by omega), wr_c _ _ _ (show c ≠ 9 by omega), wr_c _ _ _ (show c ≠ 10 by omega), wr_c _ _ _ (show c ≠ 11 by omega), wr_c _ _ _ (show c ≠ 13 by omega), wr_c _ _ _ (show c ≠ 14 by omega), wr_c _ _ _ (show c ≠ 15 by omega), wr_c _ _ _ (show c ≠ 0 by omega)]
        · simp only [wr_c _ _ _ (show c ≠ 8 by omega), wr_c _ _ _ (show c ≠ 9 by omega), wr_c _ _ _ (show c ≠ 10 by omega), wr_c _ _ _ (show c ≠ 11 by omega), wr_c _ _ _ (show c ≠ 13 by omega), wr_c _ _ _ (show c ≠ 14 by omega), wr_c _ _ _ (show c ≠ 15 by omega), wr_c _ _ _ (show c ≠ 0 by omega)]
      · rw [if_neg (show ¬ nI (t 8 0) < 40 from fun e => h40 ((nI_ltI (b := 40) (by omega) (by omega)).mp e))]
        refine no ?_
        rintro ⟨i', j', g1, g2, g3, g4, g5⟩
        exact h40 g5
    · rw [Phas_no hTC.1.1 (by omega) hno, bnd_some, if_pos rfl]
      refine no ?_
      rintro ⟨i', j', g1, g2, g3, g4, g5⟩
      exact hno j' g4 g2
  · rw [Phas_no hTC.1.1 (by omega) hno, bnd_some, if_pos rfl]
    refine no ?_
    rintro ⟨i', j', g1, g2, g3, g4, g5⟩
    exact hno i' g3 g1
theorem C_asks (hT : DOk t) (h : CR t d cur lv s) (l1 l2 : Int32) : ∃ v s' t' cur', f_FU_asks l1 l2 s = some (v, s') ∧ SpAsk t cur l1 l2 v t' cur' ∧ CR t' d cur' lv s' ∧ Oth s s' := by
  have hPn := hT.1
  have hFn := hT.2.1
  have hUn := hT.2.2.1
  have hTC := h.1
  unfold f_FU_asks
  rcases hasc l1 (t 8 0) with ⟨u, hu, rfl⟩ | hno
  · have h10 := (hT.2.2.2.2.2.1 u hu).2
    rw [Uhas_yes hTC.1.2.2.1 hu (by omega), bnd_some, if_neg (by decide), if_pos (inb_nI (by omega) (by omega)), ix_nI (by omega), (hTC.2.2.2.2.1 u hu).2.1]
    rcases F_ffind hT hTC (p := t 10 u) (by omega) l2 with ⟨f, hf, a1, rfl, e4⟩ | ⟨hnf, e4⟩
    · have h6 := (hT.2.2.2.2.1 f hf).2
      rw [e4, bnd_some, if_neg (nI_m1 (by omega)), if_pos (inb_nI (by omega) (by omega))]
      have hbt := hTC.2.2.2.2.2.1 u (t 6 f) (by omega) h6
      by_cases h15 : t 15 (32 * u + t 6 f) = 1
      · rw [F_bit_t h6 (by rw [hbt]; simp [h15]), bnd_some, if_neg (by decide)]
        exact ⟨_, _, _, _, rfl, Or.inr ⟨u, hu, rfl, Or.inr ⟨f, hf, a1, rfl, Or.inl ⟨h15, rfl, rfl, rfl⟩⟩⟩, h, fun _ _ => rfl⟩
      · rw [F_bit_f h6 (by rw [hbt]; simp [h15]), bnd_some, if_pos rfl, if_pos (inb_nI (by omega) (by omega)), if_pos (inb_nI (by omega) (by omega))]
        refine ⟨_, _, _, false, rfl, Or.inr ⟨u, hu, rfl, Or.inr ⟨f, hf, a1, rfl, Or.inr ⟨h15, rfl, rfl, rfl⟩⟩⟩, h.told ?_ (fun c hc => ?_) (by simp [wr_at]) (by simp [wr_at]), fun c hc => ?_⟩
        · obtain ⟨⟨a1, a2, a3, a4⟩, a5, a6, a7, a8, a9, a10⟩ := hTC
          refine ⟨⟨?_, ?_, ?_, ?_⟩, ?_, ?_, ?_, ?_, ?_, ?_⟩
          · simpa [wr_at, up2, addA] using a1
          · simpa [wr_at, up2, addA] using a2
          · simpa [wr_at, up2, addA] using a3
          · simpa [wr_at, up2, addA] using a4
          · simpa [wr_at, up2, addA] using a5
          · simpa [wr_at, up2, addA] using a6
          · simpa [wr_at, up2, addA] using a7
          · simpa [wr_at, up2, addA] using a8
          · intro u' n hu' hn
            by_cases e : u' = u
            · subst e
              have e1 : wr (wr s 0 10 0) 12 u' (s 12 u' ||| 1 <<< (nI (t 6 f) &&& 31)) 12 u' = s 12 u' ||| 1 <<< (nI (t 6 f) &&& 31) := by simp [wr_at]
              rw [e1, bt_or1 _ h6 hn, a9 u' n hu' hn]
              by_cases e2 : n = t 6 f
              · simp [up2, addA, e2]
              · simp [up2, addA, e2]
            · have e1 : wr (wr s 0 10 0) 12 u (s 12 u ||| 1 <<< (nI (t 6 f) &&& 31)) 12 u' = s 12 u' := by simp [wr_at, e]
              rw [e1, a9 u' n hu' hn]
              have e2 : 32 * u' + n ≠ 32 * u + t 6 f := by omega
              simp [up2, addA, e2]
          · simpa [wr_at, up2, addA] using a10
        · rw [wr_c _ _ _ (by omega), wr_c _ _ _ (by omega)]
        · rw [wr_c _ _ _ (by omega), wr_c _ _ _ (by omega)]
    · rw [e4, bnd_some, if_pos rfl]
      exact ⟨_, _, _, _, rfl, Or.inr ⟨u, hu, rfl, Or.inl ⟨hnf, rfl, rfl, rfl⟩⟩, h, fun _ _ => rfl⟩
  · rw [Uhas_no hTC.1.2.2.1 (by omega) hno, bnd_some, if_pos rfl]
    exact ⟨_, _, _, _, rfl, Or.inl ⟨hno, rfl, rfl, rfl⟩, h, fun _ _ => rfl⟩
theorem C_turnAdd (hT : DOk t) (h : CR t d cur lv s) {l1 l2 l3 l4 : Int32} {f k u g : Nat} (hV : TV t l1 l2 l3 l4 f k u g) {w y : Int32} (hw0 : k = 0 → w = -1) (hw : k ≠ 0 → w = nI u) (hy1 : k = 1 → y = -1) (hy : k ≠ 1 → y = nI g) : ∃ v s' t' cur', f_FU_turn_158 l1 l2 w y s = some (v, s') ∧ SpTurn t cur l1 l2 l3 l4 v t' cur' ∧ CR t' d cur' lv s' ∧ Oth s s' := by
  have hTn := hT.2.2.2.1
  have hTC := h.1
  have h60 := hV.2.2.2.2.1
  obtain ⟨g1, -, g3, -⟩ := id hV
  subst g1; subst g3
  unfold f_FU_turn_158 f_Turns_add
  have e10 : wr s 0 10 0 16 0 = nI (t 16 0) := by rw [wr_c _ _ _ (by omega)]; exact hTC.1.2.2.2
  rw [e10, if_pos (inb_nI h60 (by omega)), if_pos (inb_nI h60 (by omega)), if_pos (inb_nI h60 (by omega)), if_pos (inb_nI h60 (by omega)), bnd_some, ix_nI (by omega), nn1]
  refine ⟨_, _, _, false, rfl, Or.inl ⟨f, k, u, g, hV, rfl, rfl, rfl⟩, h.told ?_ (fun c hc => ?_) (by simp [wr_at]) (by simp [wr_at]), fun c hc => ?_⟩
  · obtain ⟨⟨a1, a2, a3, a4⟩, a5, a6, a7, a8, a9, a10⟩ := hTC
    refine ⟨⟨?_, ?_, ?_, ?_⟩, ?_, ?_, ?_, ?_, ?_, ?_⟩
    · simpa [wr_at, up2, addT] using a1
    · simpa [wr_at, up2, addT] using a2
    · simpa [wr_at, up2, addT] using a3
    · simp [wr_at, up2, addT, nI_succ]
    · simpa [wr_at, up2, addT] using a5
    · simpa [wr_at, up2, addT] using a6
    · simpa [wr_at, up2, addT] using a7
    · simpa [wr_at, up2, addT] using a8
    · simpa [wr_at, up2, addT] using a9
    · intro r hr
      have hr : r < t 16 0 + 1 := by simpa [up2, addT] using hr
      by_cases e : r = t 16 0
      · subst e
        simp [wr_at, up2, addT]
        exact ⟨hw, hw0, hy, hy1⟩
      · simp [wr_at, up2, addT, e]
        exact a10 r (by omega)
  · simp only [wr_c _ _ _ (show c ≠ 16 by omega), wr_c _ _ _ (show c ≠ 17 by omega), wr_c _ _ _ (show c ≠ 18 by omega), wr_c _ _ _ (show c ≠ 19 by omega), wr_c _ _ _ (show c ≠ 20 by omega), wr_c _ _ _ (show c ≠ 0 by omega)]
  · simp only [wr_c _ _ _ (show c ≠ 16 by omega), wr_c _ _ _ (show c ≠ 17 by omega), wr_c _ _ _ (show c ≠ 18 by omega), wr_c _ _ _ (show c ≠ 19 by omega), wr_c _ _ _ (show c ≠ 20 by omega), wr_c _ _ _ (show c ≠ 0 by omega)]
theorem C_turn (hT : DOk t) (hF : DF t) (hN : NU t) (h : CR t d cur lv s) (l1 l2 l3 l4 : Int32) : ∃ v s' t' cur', f_FU_turn l1 l2 l3 l4 s = some (v, s') ∧ SpTurn t cur l1 l2 l3 l4 v t' cur' ∧ CR t' d cur' lv s' ∧ Oth s s' := by
  have hPn := hT.1
  have hFn := hT.2.1
  have hUn := hT.2.2.1
  have hTn := hT.2.2.2.1
  have hTC := h.1
  unfold f_FU_turn
  have no : (∀ f k u g, ¬ TV t l1 l2 l3 l4 f k u g) → ∃ v s' t' cur', (some (-1, s) : Ro) = some (v, s') ∧ SpTurn t cur l1 l2 l3 l4 v t' cur' ∧ CR t' d cur' lv s' ∧ Oth s s' := fun hn => ⟨_, _, _, _, rfl, Or.inr ⟨hn, rfl, rfl, rfl⟩, h, fun _ _ => rfl⟩
  rcases hasc l1 (t 4 0) with ⟨f, hf, rfl⟩ | hno
  · have h5 := hT.2.2.2.2.1 f hf
    rw [Fhas_yes hTC.1.2.1 hf (by omega), bnd_some, if_neg (by decide)]
    rcases hasc l2 4 with ⟨k, hk, rfl⟩ | hno
    · have e2 : f_FU_within (nI k) 4 s = some (1, s) := within_yes (n := 4) hk (by omega) s
      rw [e2, bnd_some, if_neg (by decide), hTC.1.2.2.2]
      by_cases h60 : t 16 0 < 60
      · rw [if_pos (show nI (t 16 0) < 60 from (nI_ltI (b := 60) (by omega) (by omega)).mpr h60), if_pos (inb_nI (by omega) (by omega)), ix_nI (by omega), (hTC.2.2.2.1 f hf).1]
        by_cases h0 : k = 0
        · subst h0
          rw [if_pos (show nI 0 = (0 : Int32) from rfl)]
          unfold f_FU_turn_100
          rw [if_neg (show ¬ nI 0 = (1 : Int32) by decide), if_pos (show (-1 : Int32) = -1 from rfl)]
          unfold f_FU_turn_133
          rcases F_ffind hT hTC (p := t 5 f) (by omega) l4 with ⟨g, hg, a1, rfl, e4⟩ | ⟨hnf, e4⟩
          · rw [e4, bnd_some, if_neg (nI_m1 (by omega)), if_pos (show nI 0 = (0 : Int32) from rfl)]
            by_cases hgf : g = f
            · subst hgf
              rw [if_pos rfl]
              refine no ?_
              rintro f' k' u' g' ⟨b1, b2, b3, b4, b5, b6, b7, b8, b9⟩
              have c1 := nI_inj (by omega) (by omega) b1
              have c2 := nI_inj (by omega) (by omega) b3
              subst c1; subst c2
              obtain ⟨d1, d2, d3, d4⟩ := b9 (by omega)
              rw [if_pos rfl] at d2
              have d6 := (hT.2.2.2.2.1 g' d1).2
              have d7 := nI_inj (by omega) (by omega) d3
              exact d4 rfl (hN g' g d1 hg d2 d7.symm)
            · rw [if_neg (fun e => hgf (nI_inj (by omega) (by omega) e))]
              exact C_turnAdd hT h (f := f) (k := 0) (u := 0) (g := g) ⟨rfl, hf, rfl, by omega, h60, fun _ => rfl, fun z => absurd rfl z, fun z => by omega, fun _ => ⟨hg, by rw [if_pos rfl]; exact a1, rfl, fun _ => hgf⟩⟩ (fun _ => rfl) (fun z => absurd rfl z) (fun z => by omega) (fun _ => rfl)
          · rw [e4, bnd_some, if_pos rfl]
            refine no ?_
            rintro f' k' u' g' ⟨b1, b2, b3, b4, b5, b6, b7, b8, b9⟩
            have c1 := nI_inj (by omega) (by omega) b1
            have c2 := nI_inj (by omega) (by omega) b3
            subst c1; subst c2
            obtain ⟨d1, d2, d3, d4⟩ := b9 (by omega)
            rw [if_pos rfl] at d2
            exact hnf g' d1 d2 d3
        · rw [if_neg (fun e => h0 ((nI_l0 (by omega)).mp e))]
          rcases hasc l3 (t 8 0) with ⟨u, hu, rfl⟩ | hno
          · have h9 := hT.2.2.2.2.2.1 u hu
            have h13 := (hF.2.2 u hu).2.2
            have hsu := hTC.2.2.2.2.1 u hu
            rw [Uhas_yes hTC.1.2.2.1 hu (by omega), bnd_some, if_neg (by decide), if_pos (inb_nI (by omega) (by omega)), ix_nI (by omega), hsu.1]
            by_cases h95 : t 9 u = t 5 f
            · rw [if_pos (by rw [h95])]
              have rest : (k = 1 → t 13 u = 1) → ∃ v s' t' cur', f_FU_turn_97 (nI f) (nI k) (nI u) l4 (nI (t 5 f)) s = some (v, s') ∧ SpTurn t cur (nI f) (nI k) (nI u) l4 v t' cur' ∧ CR t' d cur' lv s' ∧ Oth s s' := by
                intro hopt
                unfold f_FU_turn_97 f_FU_turn_100
                by_cases h1 : k = 1
                · rw [if_pos ((nI_l1 (by omega)).mpr h1)]
                  exact C_turnAdd hT h (f := f) (k := k) (u := u) (g := 0) ⟨rfl, hf, rfl, hk, h60, fun z => absurd z h0, fun _ => ⟨rfl, hu, h95, hopt⟩, fun _ => rfl, fun z => absurd h1 z⟩ (fun z => absurd z h0) (fun _ => rfl) (fun _ => rfl) (fun z => absurd h1 z)
                · rw [if_neg (fun e => h1 ((nI_l1 (by omega)).mp e)), if_neg (nI_m1 (by omega)), if_pos (inb_nI (by omega) (by omega)), ix_nI (by omega), hsu.2.1]
                  unfold f_FU_turn_133
                  rcases F_ffind hT hTC (p := t 10 u) (by omega) l4 with ⟨g, hg, a1, rfl, e4⟩ | ⟨hnf, e4⟩
                  · rw [e4, bnd_some, if_neg (nI_m1 (by omega)), if_neg (fun e => h0 ((nI_l0 (by omega)).mp e))]
                    exact C_turnAdd hT h (f := f) (k := k) (u := u) (g := g) ⟨rfl, hf, rfl, hk, h60, fun z => absurd z h0, fun _ => ⟨rfl, hu, h95, hopt⟩, fun z => absurd z h1, fun _ => ⟨hg, by rw [if_neg h0]; exact a1, rfl, fun z => absurd z h0⟩⟩ (fun z => absurd z h0) (fun _ => rfl) (fun z => absurd z h1) (fun _ => rfl)
                  · rw [e4, bnd_some, if_pos rfl]
                    refine no ?_
                    rintro f' k' u' g' ⟨b1, b2, b3, b4, b5, b6, b7, b8, b9⟩
                    have c2 := nI_inj (by omega) (by omega) b3
                    subst c2
                    obtain ⟨d1, d2, d3, d4⟩ := b9 h1
                    obtain ⟨f1, f2, f3, f4⟩ := b7 h0
                    have c3 := nI_inj (by omega) (by omega) f1
                    subst c3
                    rw [if_neg h0] at d2
                    exact hnf g' d1 d2 d3
              by_cases h1 : k = 1
              · rw [if_pos ((nI_l1 (by omega)).mpr h1), if_pos (inb_nI (by omega) (by omega)), hsu.2.2.2.2.1]
                by_cases ho : t 13 u = 1
                · rw [if_neg (fun e => by have := (nI_l0 (by omega)).mp e; omega)]
                  exact rest (fun _ => ho)
                · rw [if_pos ((nI_l0 (by omega)).mpr (by omega))]
                  refine no ?_
                  rintro f' k' u' g' ⟨b1, b2, b3, b4, b5, b6, b7, b8, b9⟩
                  have c2 := nI_inj (by omega) (by omega) b3
                  subst c2
                  obtain ⟨f1, f2, f3, f4⟩ := b7 h0
                  have c3 := nI_inj (by omega) (by omega) f1
                  subst c3
                  exact ho (f4 h1)
              · rw [if_neg (fun e => h1 ((nI_l1 (by omega)).mp e))]
                exact rest (fun z => absurd z h1)
            · rw [if_neg (fun e => h95 (nI_inj (by omega) (by omega) e))]
              refine no ?_
              rintro f' k' u' g' ⟨b1, b2, b3, b4, b5, b6, b7, b8, b9⟩
              have c1 := nI_inj (by omega) (by omega) b1
              have c2 := nI_inj (by omega) (by omega) b3
              subst c1; subst c2
              obtain ⟨f1, f2, f3, f4⟩ := b7 h0
              have c3 := nI_inj (by omega) (by omega) f1
              subst c3
              exact h95 f3
          · rw [Uhas_no hTC.1.2.2.1 (by omega) hno, bnd_some, if_pos rfl]
            refine no ?_
            rintro f' k' u' g' ⟨b1, b2, b3, b4, b5, b6, b7, b8, b9⟩
            have c2 := nI_inj (by omega) (by omega) b3
            subst c2
            exact hno u' (b7 h0).2.1 (b7 h0).1
      · rw [if_neg (show ¬ nI (t 16 0) < 60 from fun e => h60 ((nI_ltI (b := 60) (by omega) (by omega)).mp e))]
        exact no (fun f k u g z => h60 z.2.2.2.2.1)
    · have e2 : f_FU_within l2 4 s = some (0, s) := within_no (n := 4) (by omega) hno s
      rw [e2, bnd_some, if_pos rfl]
      exact no (fun f k u g z => hno k z.2.2.2.1 z.2.2.1)
  · rw [Fhas_no hTC.1.2.1 (by omega) hno, bnd_some, if_pos rfl]
    exact no (fun f k u g z => hno f z.2.1 z.1)
end TlC
