section Iv
variable {t t' t1 t2 d d1 d2 : Dt} {cur c1 c2 : Bool} {lv lv1 lv2 : List Nat} {s s' : Sg} {v w : Int32}
theorem RR.oth (h : RR t d cur lv s) (ho : Oth s s') : RR t d cur lv s' := by
  unfold RR TR SR RCu
  rw [ho 31 (by omega), ho 32 (by omega), ho 33 (by omega), ho 34 (by omega), ho 35 (by omega), ho 36 (by omega), ho 37 (by omega), ho 38 (by omega), ho 39 (by omega), ho 40 (by omega), ho 41 (by omega), ho 42 (by omega), ho 43 (by omega), ho 44 (by omega), ho 45 (by omega), ho 46 (by omega), ho 47 (by omega), ho 48 (by omega), ho 49 (by omega), ho 50 (by omega), ho 51 (by omega), ho 55 (by omega), ho 56 (by omega), ho 57 (by omega), ho 58 (by omega)]
  exact h
theorem CR.othc (h : CR t d cur lv s) (ho : OthC s s') : CR t d cur lv s' := by
  unfold CR TC SC
  rw [ho 0 (by omega), ho 1 (by omega), ho 2 (by omega), ho 3 (by omega), ho 4 (by omega), ho 5 (by omega), ho 6 (by omega), ho 7 (by omega), ho 8 (by omega), ho 9 (by omega), ho 10 (by omega), ho 11 (by omega), ho 12 (by omega), ho 13 (by omega), ho 14 (by omega), ho 15 (by omega), ho 16 (by omega), ho 17 (by omega), ho 18 (by omega), ho 19 (by omega), ho 20 (by omega), ho 21 (by omega), ho 22 (by omega), ho 24 (by omega), ho 30 (by omega)]
  exact h
/-- more was told -/
def Ge (t t' : Dt) : Prop := (t 0 0 ≤ t' 0 0 ∧ t 4 0 ≤ t' 4 0 ∧ t 8 0 ≤ t' 8 0 ∧ t 16 0 ≤ t' 16 0 ∧ t 24 0 ≤ t' 24 0) ∧ (∀ p, p < t 0 0 → t' 3 p = t 3 p) ∧ (∀ f, f < t 4 0 → t' 5 f = t 5 f ∧ t' 6 f = t 6 f ∧ t' 7 f = t 7 f ∧ t' 21 f = t 21 f) ∧
  (∀ u, u < t 8 0 → t' 9 u = t 9 u ∧ t' 10 u = t 10 u ∧ t' 11 u = t 11 u ∧ t' 12 u = t 12 u ∧ t' 13 u = t 13 u ∧ ∀ b, b < 8 → t' 14 (8 * u + b) = t 14 (8 * u + b)) ∧ (∀ r, r < t 16 0 → t' 17 r = t 17 r ∧ t' 18 r = t 18 r ∧ t' 19 r = t 19 r ∧ t' 20 r = t 20 r) ∧
  (∀ k, k < t 24 0 → t' 22 k = t 22 k ∧ t' 23 k = t 23 k) ∧ (∀ p, p < 10 → t 1 p = 1 → t' 1 p = 1 ∧ t' 2 p = t 2 p)
theorem Sn.ge (h : Sn d t) (hg : Ge t t') (h25 : d 25 0 < 8) : Sn d t' := by
  obtain ⟨⟨n1, n2, n3, n4, n5⟩, s1, s2, s3, s4, s5, s6⟩ := h
  obtain ⟨⟨m1, m2, m3, m4, m5⟩, g1, g2, g3, g4, g5, g6⟩ := hg
  refine ⟨⟨by omega, by omega, by omega, by omega, by omega⟩, fun p hp => ?_, fun f hf => ?_, fun u hu => ?_, fun r hr => ?_, fun k hk => ?_, fun p hp => ⟨fun h1 => ?_, (s6 p hp).2⟩⟩
  · rw [g1 p (by omega)]; exact s1 p hp
  · obtain ⟨a1, a2, a3, a4⟩ := g2 f (by omega)
    rw [a1, a2, a3, a4]; exact s2 f hf
  · obtain ⟨a1, a2, a3, a4, a5, a6⟩ := g3 u (by omega)
    rw [a1, a2, a3, a4, a5, a6 _ h25]; exact s3 u hu
  · obtain ⟨a1, a2, a3, a4⟩ := g4 r (by omega)
    rw [a1, a2, a3, a4]; exact s4 r hr
  · obtain ⟨a1, a2⟩ := g5 k (by omega)
    rw [a1, a2]; exact s5 k hk
  · obtain ⟨b1, b2⟩ := (s6 p hp).1 h1
    obtain ⟨c1, c2⟩ := g6 p hp b1
    exact ⟨c1, by rw [c2]; exact b2⟩
theorem Ge.refl (t : Dt) : Ge t t := ⟨⟨Nat.le_refl _, Nat.le_refl _, Nat.le_refl _, Nat.le_refl _, Nat.le_refl _⟩, fun _ _ => rfl, fun _ _ => ⟨rfl, rfl, rfl, rfl⟩, fun _ _ => ⟨rfl, rfl, rfl, rfl, rfl, fun _ _ => rfl⟩, fun _ _ => ⟨rfl, rfl, rfl, rfl⟩, fun _ _ => ⟨rfl, rfl⟩, fun _ _ h => ⟨h, rfl⟩⟩
theorem SI.told (h : SI t d cur) (hT : TOk t') (hg : Ge t t') : SI t' d false :=
  ⟨hT, h.2.1, h.2.2.1.ge hg h.2.1.2.2, h.2.2.2.1, h.2.2.2.2.1, h.2.2.2.2.2.1, fun z => by cases z⟩
/-- packages -/
theorem SpPack.inv {b : Int32} (h : SI t d cur) (hb : isb b = true) (hs : SpPack t cur b v t' c1) : SI t' d c1 := by
  rcases hs with ⟨h1, -, rfl, rfl⟩ | ⟨-, -, rfl, rfl⟩
  · obtain ⟨⟨d1, d2, d3, d4, d5, d6, d7⟩, ⟨f1, f2, f3⟩, hN, hA, hF, hR⟩ := id h.1
    refine h.told ⟨⟨?_, ?_, ?_, ?_, ?_, ?_, ?_⟩, ⟨?_, ?_, ?_⟩, ?_, ?_, ?_, ?_⟩ ⟨⟨?_, ?_, ?_, ?_, ?_⟩, ?_, ?_, ?_, ?_, ?_, ?_⟩
    · simp [up2]; omega
    · simpa [up2] using d2
    · simpa [up2] using d3
    · simpa [up2] using d4
    · intro f hf
      have hf : f < t 4 0 := by simpa [up2] using hf
      have := d5 f hf
      simp [up2]; omega
    · intro u hu
      have hu : u < t 8 0 := by simpa [up2] using hu
      have := d6 u hu
      simp [up2]; omega
    · simpa [up2] using d7
    · intro p hp
      have hp : p < t 0 0 + 1 := by simpa [up2] using hp
      by_cases e : p = t 0 0
      · simp [up2, e]; exact (ix_isb hb).2
      · simp [up2, e]; exact f1 p (by omega)
    · simpa [up2] using f2
    · simpa [up2] using f3
    · simpa [NU, up2] using hN
    · simpa [AskOk, up2] using hA
    · simpa [Few, up2] using hF
    · simpa [up2] using hR
    · simp [up2]
    · simp [up2]
    · simp [up2]
    · simp [up2]
    · simp [up2]
    · intro p hp
      have e : p ≠ t 0 0 := by omega
      simp [up2, e]
    · simp [up2]
    · simp [up2]
    · simp [up2]
    · simp [up2]
    · simp [up2]
  · exact h
theorem SpPack.det {b : Int32} (h1 : SpPack t cur b v t1 c1) (h2 : SpPack t cur b w t2 c2) : v = w ∧ t1 = t2 ∧ c1 = c2 := by
  rcases h1 with ⟨a1, rfl, rfl, rfl⟩ | ⟨a1, rfl, rfl, rfl⟩ <;> rcases h2 with ⟨b1, rfl, rfl, rfl⟩ | ⟨b1, rfl, rfl, rfl⟩
  · exact ⟨rfl, rfl, rfl⟩
  · omega
  · omega
  · exact ⟨rfl, rfl, rfl⟩
/-- features -/
theorem SpFeat.inv {l1 l2 b l4 : Int32} (h : SI t d cur) (hb : isb b = true) (hs : SpFeat t cur l1 l2 b l4 v t' c1) : SI t' d c1 := by
  rcases hs with ⟨i, j, k, -, -, -, ⟨k1, k2, k3, k4, k5, k6⟩, -, rfl, rfl⟩ | ⟨-, -, rfl, rfl⟩
  · obtain ⟨⟨d1, d2, d3, d4, d5, d6, d7⟩, ⟨f1, f2, f3⟩, hN, ⟨hA1, hA2, hA3, hA4⟩, hF, hR⟩ := id h.1
    have r5 : ∀ f, f < t 4 0 → addF t i j (ix b) k 5 f = t 5 f := fun f hf => by
      have e : f ≠ t 4 0 := by omega
      simp [up2, addF, e]
    have r6 : ∀ f, f < t 4 0 → addF t i j (ix b) k 6 f = t 6 f := fun f hf => by
      have e : f ≠ t 4 0 := by omega
      simp [up2, addF, e]
    have r4 : addF t i j (ix b) k 4 0 = t 4 0 + 1 := by simp [up2, addF]
    refine h.told ⟨⟨?_, ?_, ?_, ?_, ?_, ?_, ?_⟩, ⟨?_, ?_, ?_⟩, ?_, ⟨?_, ?_, ?_, ?_⟩, ?_, ?_⟩ ⟨⟨?_, ?_, ?_, ?_, ?_⟩, ?_, ?_, ?_, ?_, ?_, ?_⟩
    · simpa [up2, addF] using d1
    · rw [r4]; omega
    · simpa [up2, addF] using d3
    · simpa [up2, addF] using d4
    · intro f hf
      rw [r4] at hf
      by_cases e : f = t 4 0
      · simp [up2, addF, e]; exact ⟨k1, k2⟩
      · have := d5 f (by omega)
        simp [up2, addF, e]; exact this
    · simpa [up2, addF] using d6
    · intro r hr
      have hr : r < t 16 0 := by simpa [up2, addF] using hr
      obtain ⟨a1, a2, a3, a4⟩ := d7 r hr
      simp [up2, addF]
      exact ⟨by omega, a2, a3, fun z => by have := a4 z; omega⟩
    · simpa [up2, addF] using f1
    · intro f hf
      rw [r4] at hf
      by_cases e : f = t 4 0
      · simp [up2, addF, e]; exact ⟨(ix_isb hb).2, k3⟩
      · have := f2 f (by omega)
        simp [up2, addF, e]; exact this
    · simpa [up2, addF] using f3
    · intro f g hf hg h5 h6
      rw [r4] at hf hg
      by_cases ef : f = t 4 0 <;> by_cases eg : g = t 4 0
      · omega
      · subst ef
        rw [r5 g (by omega)] at h5
        rw [r6 g (by omega)] at h6
        have e5 : addF t i j (ix b) k 5 (t 4 0) = i := by simp [up2, addF]
        have e6 : addF t i j (ix b) k 6 (t 4 0) = j := by simp [up2, addF]
        exact absurd (by omega) (k4 g (by omega) (by omega))
      · subst eg
        rw [r5 f (by omega)] at h5
        rw [r6 f (by omega)] at h6
        have e5 : addF t i j (ix b) k 5 (t 4 0) = i := by simp [up2, addF]
        have e6 : addF t i j (ix b) k 6 (t 4 0) = j := by simp [up2, addF]
        exact absurd (by omega) (k4 f (by omega) (by omega))
      · rw [r5 f (by omega), r5 g (by omega)] at h5
        rw [r6 f (by omega), r6 g (by omega)] at h6
        exact hN f g (by omega) (by omega) h5 h6
    · simpa [up2, addF] using hA1
    · intro q hq
      have hq : q < t 24 0 := by simpa [up2, addF] using hq
      obtain ⟨a1, a2, a3⟩ := hA2 q hq
      have e : t 23 q ≠ t 4 0 := by omega
      simp [up2, addF, e]
      exact ⟨a1, by omega, a3⟩
    · simpa [up2, addF] using hA3
    · intro u n hn
      have e15 : addF t i j (ix b) k 15 (32 * u + n) = t 15 (32 * u + n) := by simp [up2, addF]
      have e24 : addF t i j (ix b) k 24 0 = t 24 0 := by simp [up2, addF]
      have e22 : ∀ q, addF t i j (ix b) k 22 q = t 22 q := fun q => by simp [up2, addF]
      have e23 : ∀ q, addF t i j (ix b) k 23 q = t 23 q := fun q => by simp [up2, addF]
      rw [e15, e24, hA4 u n hn]
      constructor
      · rintro ⟨q, hq, b1, b2⟩
        exact ⟨q, hq, by rw [e22]; exact b1, by rw [e23, r6 _ (hA2 q hq).2.1]; exact b2⟩
      · rintro ⟨q, hq, b1, b2⟩
        rw [e22] at b1
        rw [e23, r6 _ (hA2 q hq).2.1] at b2
        exact ⟨q, hq, b1, b2⟩
    · intro p
      rw [r4, sel_succ, List.length_append, sel_congr (t 4 0) (p' := fun f => decide (t 5 f = p)) (fun f hf => by rw [r5 f hf])]
      have e5 : addF t i j (ix b) k 5 (t 4 0) = i := by simp [up2, addF]
      rw [e5]
      by_cases e : i = p
      · subst e
        simp
        omega
      · simp [e]
        exact hF p
    · simpa [up2, addF] using hR
    · simp [up2, addF]
    · rw [r4]; omega
    · simp [up2, addF]
    · simp [up2, addF]
    · simp [up2, addF]
    · simp [up2, addF]
    · intro f hf
      have e : f ≠ t 4 0 := by omega
      simp [up2, addF, e]
    · simp [up2, addF]
    · simp [up2, addF]
    · simp [up2, addF]
    · simp [up2, addF]
  · exact h
theorem SpFeat.det {l1 l2 b l4 : Int32} (hD : DOk t) (h1 : SpFeat t cur l1 l2 b l4 v t1 c1) (h2 : SpFeat t cur l1 l2 b l4 w t2 c2) : v = w ∧ t1 = t2 ∧ c1 = c2 := by
  have hP := hD.1
  rcases h1 with ⟨i, j, k, e1, e2, e3, hF, rfl, rfl, rfl⟩ | ⟨a1, rfl, rfl, rfl⟩ <;> rcases h2 with ⟨i', j', k', e1', e2', e3', hF', rfl, rfl, rfl⟩ | ⟨b1, rfl, rfl, rfl⟩
  · have x1 := nI_inj (by have := hF.1; omega) (by have := hF'.1; omega) (e1.symm.trans e1')
    have x2 := nI_inj (by have := hF.2.1; omega) (by have := hF'.2.1; omega) (e2.symm.trans e2')
    have x3 := nI_inj (by have := hF.2.2.1; omega) (by have := hF'.2.2.1; omega) (e3.symm.trans e3')
    subst x1; subst x2; subst x3
    exact ⟨rfl, rfl, rfl⟩
  · exact absurd ⟨i, j, k, e1, e2, e3, hF⟩ b1
  · exact absurd ⟨i', j', k', e1', e2', e3', hF'⟩ a1
  · exact ⟨rfl, rfl, rfl⟩
/-- roots -/
theorem SpRoot.inv {l1 b : Int32} (h : SI t d cur) (hs : SpRoot t cur l1 b v t' c1) : SI t' d c1 := by
  rcases hs with ⟨i, -, k1, k2, -, rfl, rfl⟩ | ⟨-, -, rfl, rfl⟩
  · obtain ⟨⟨d1, d2, d3, d4, d5, d6, d7⟩, ⟨f1, f2, f3⟩, hN, hA, hF, hR⟩ := id h.1
    refine h.told ⟨⟨?_, ?_, ?_, ?_, ?_, ?_, ?_⟩, ⟨?_, ?_, ?_⟩, ?_, ?_, ?_, ?_⟩ ⟨⟨?_, ?_, ?_, ?_, ?_⟩, ?_, ?_, ?_, ?_, ?_, ?_⟩
    · simpa [up2] using d1
    · simpa [up2] using d2
    · simpa [up2] using d3
    · simpa [up2] using d4
    · simpa [up2] using d5
    · simpa [up2] using d6
    · simpa [up2] using d7
    · simpa [up2] using f1
    · simpa [up2] using f2
    · simpa [up2] using f3
    · simpa [NU, up2] using hN
    · simpa [AskOk, up2] using hA
    · simpa [Few, up2] using hF
    · intro p hp
      by_cases e : p = i
      · simp [up2, e]
      · simp [up2, e] at hp ⊢
        exact hR p hp
    · simp [up2]
    · simp [up2]
    · simp [up2]
    · simp [up2]
    · simp [up2]
    · simp [up2]
    · simp [up2]
    · simp [up2]
    · simp [up2]
    · simp [up2]
    · intro p hp h1
      have e : p ≠ i := fun z => k2 (by rw [← z]; exact h1)
      simp [up2, e]
      exact h1
  · exact h
theorem SpRoot.det {l1 b : Int32} (hD : DOk t) (h1 : SpRoot t cur l1 b v t1 c1) (h2 : SpRoot t cur l1 b w t2 c2) : v = w ∧ t1 = t2 ∧ c1 = c2 := by
  have hP := hD.1
  rcases h1 with ⟨i, e1, a1, a2, rfl, rfl, rfl⟩ | ⟨a1, rfl, rfl, rfl⟩ <;> rcases h2 with ⟨i', e1', b1, b2, rfl, rfl, rfl⟩ | ⟨b1, rfl, rfl, rfl⟩
  · have x1 := nI_inj (by omega) (by omega) (e1.symm.trans e1')
    subst x1
    exact ⟨rfl, rfl, rfl⟩
  · exact absurd (b1 i e1 a1) a2
  · exact absurd (a1 i' e1' b1) b2
  · exact ⟨rfl, rfl, rfl⟩
/-- users -/
theorem SpUser.inv {l1 l2 b1 b2 b3 l6 : Int32} (h : SI t d cur) (hb1 : isb b1 = true) (hb2 : isb b2 = true) (hb3 : isb b3 = true) (hs : SpUser t cur l1 l2 b1 b2 b3 l6 v t' c1) : SI t' d c1 := by
  rcases hs with ⟨i, j, -, -, k1, k2, k3, -, rfl, rfl⟩ | ⟨-, -, rfl, rfl⟩
  · obtain ⟨⟨d1, d2, d3, d4, d5, d6, d7⟩, ⟨f1, f2, f3⟩, hN, ⟨hA1, hA2, hA3, hA4⟩, hF, hR⟩ := id h.1
    have r8 : addU t i j (ix b1) (ix b2) (ix b3) l6 8 0 = t 8 0 + 1 := by simp [up2, addU]
    refine h.told ⟨⟨?_, ?_, ?_, ?_, ?_, ?_, ?_⟩, ⟨?_, ?_, ?_⟩, ?_, ⟨?_, ?_, ?_, ?_⟩, ?_, ?_⟩ ⟨⟨?_, ?_, ?_, ?_, ?_⟩, ?_, ?_, ?_, ?_, ?_, ?_⟩
    · simpa [up2, addU] using d1
    · simpa [up2, addU] using d2
    · rw [r8]; omega
    · simpa [up2, addU] using d4
    · simpa [up2, addU] using d5
    · intro u hu
      rw [r8] at hu
      by_cases e : u = t 8 0
      · simp [up2, addU, e]; exact ⟨k1, k2⟩
      · have := d6 u (by omega)
        simp [up2, addU, e]; exact this
    · intro r hr
      have hr : r < t 16 0 := by simpa [up2, addU] using hr
      obtain ⟨a1, a2, a3, a4⟩ := d7 r hr
      simp [up2, addU]
      exact ⟨a1, a2, fun z => by have := a3 z; omega, a4⟩
    · simpa [up2, addU] using f1
    · simpa [up2, addU] using f2
    · intro u hu
      rw [r8] at hu
      by_cases e : u = t 8 0
      · simp [up2, addU, e]; exact ⟨(ix_isb hb1).2, (ix_isb hb2).2, (ix_isb hb3).2⟩
      · have := f3 u (by omega)
        simp [up2, addU, e]; exact this
    · simpa [NU, up2, addU] using hN
    · simpa [up2, addU] using hA1
    · intro q hq
      have hq : q < t 24 0 := by simpa [up2, addU] using hq
      obtain ⟨a1, a2, a3⟩ := hA2 q hq
      have e : t 22 q ≠ t 8 0 := by omega
      simp [up2, addU, e]
      exact ⟨by omega, a2, a3⟩
    · simpa [up2, addU] using hA3
    · simpa [up2, addU] using hA4
    · simpa [Few, up2, addU] using hF
    · simpa [up2, addU] using hR
    · simp [up2, addU]
    · simp [up2, addU]
    · rw [r8]; omega
    · simp [up2, addU]
    · simp [up2, addU]
    · simp [up2, addU]
    · simp [up2, addU]
    · intro u hu
      have e : u ≠ t 8 0 := by omega
      refine ⟨by simp [up2, addU, e], by simp [up2, addU, e], by simp [up2, addU, e], by simp [up2, addU, e], by simp [up2, addU, e], fun b hb => ?_⟩
      have hne : ¬ (8 * u + b) / 8 = t 8 0 := by omega
      simp [up2, addU, hne]
    · simp [up2, addU]
    · simp [up2, addU]
    · simp [up2, addU]
  · exact h
theorem SpUser.det {l1 l2 b1 b2 b3 l6 : Int32} (hD : DOk t) (h1 : SpUser t cur l1 l2 b1 b2 b3 l6 v t1 c1) (h2 : SpUser t cur l1 l2 b1 b2 b3 l6 w t2 c2) : v = w ∧ t1 = t2 ∧ c1 = c2 := by
  have hP := hD.1
  rcases h1 with ⟨i, j, e1, e2, a1, a2, a3, rfl, rfl, rfl⟩ | ⟨a1, rfl, rfl, rfl⟩ <;> rcases h2 with ⟨i', j', e1', e2', z1, z2, z3, rfl, rfl, rfl⟩ | ⟨z1, rfl, rfl, rfl⟩
  · have x1 := nI_inj (by omega) (by omega) (e1.symm.trans e1')
    have x2 := nI_inj (by omega) (by omega) (e2.symm.trans e2')
    subst x1; subst x2
    exact ⟨rfl, rfl, rfl⟩
  · exact absurd ⟨i, j, e1, e2, a1, a2, a3⟩ z1
  · exact absurd ⟨i', j', e1', e2', z1, z2, z3⟩ a1
  · exact ⟨rfl, rfl, rfl⟩
/-- askings -/
theorem SpAsk.inv {l1 l2 : Int32} (h : SI t d cur) (hs : SpAsk t cur l1 l2 v t' c1) : SI t' d c1 := by
  rcases hs with ⟨-, -, rfl, rfl⟩ | ⟨u, hu, -, ⟨-, -, rfl, rfl⟩ | ⟨f, hf, h5, -, ⟨-, -, rfl, rfl⟩ | ⟨h15, -, rfl, rfl⟩⟩⟩
  · exact h
  · exact h
  · exact h
  · have hai := ask_iff h.1 hf h5
    have hno : ∀ k, k < t 24 0 → ¬ (t 22 k = u ∧ t 23 k = f) := fun k hk z => h15 (hai.mp ⟨k, hk, z.1, z.2⟩)
    have h400 := Ask_lt h.1 hu hf h5 hno
    obtain ⟨⟨d1, d2, d3, d4, d5, d6, d7⟩, ⟨f1, f2, f3⟩, hN, ⟨hA1, hA2, hA3, hA4⟩, hF, hR⟩ := id h.1
    have h6 := (d5 f hf).2
    have r24 : addA t u f 24 0 = t 24 0 + 1 := by simp [up2, addA]
    have r6 : ∀ q, addA t u f 6 q = t 6 q := fun q => by simp [up2, addA]
    have r22 : ∀ q, addA t u f 22 q = if q = t 24 0 then u else t 22 q := fun q => by simp [up2, addA]
    have r23 : ∀ q, addA t u f 23 q = if q = t 24 0 then f else t 23 q := fun q => by simp [up2, addA]
    refine h.told ⟨⟨?_, ?_, ?_, ?_, ?_, ?_, ?_⟩, ⟨?_, ?_, ?_⟩, ?_, ⟨?_, ?_, ?_, ?_⟩, ?_, ?_⟩ ⟨⟨?_, ?_, ?_, ?_, ?_⟩, ?_, ?_, ?_, ?_, ?_, ?_⟩
    · simpa [up2, addA] using d1
    · simpa [up2, addA] using d2
    · simpa [up2, addA] using d3
    · simpa [up2, addA] using d4
    · simpa [up2, addA] using d5
    · simpa [up2, addA] using d6
    · simpa [up2, addA] using d7
    · simpa [up2, addA] using f1
    · simpa [up2, addA] using f2
    · simpa [up2, addA] using f3
    · simpa [NU, up2, addA] using hN
    · rw [r24]; omega
    · intro q hq
      rw [r24] at hq
      by_cases e : q = t 24 0
      · simp [up2, addA, e]; exact ⟨hu, hf, h5⟩
      · have := hA2 q (by omega)
        simp [up2, addA, e]; exact this
    · intro k l hk hl e1 e2
      rw [r24] at hk hl
      rw [r22, r22] at e1
      rw [r23, r23] at e2
      by_cases ek : k = t 24 0 <;> by_cases el : l = t 24 0
      · omega
      · rw [if_pos ek, if_neg el] at e1
        rw [if_pos ek, if_neg el] at e2
        exact absurd ⟨e1.symm, e2.symm⟩ (hno l (by omega))
      · rw [if_neg ek, if_pos el] at e1
        rw [if_neg ek, if_pos el] at e2
        exact absurd ⟨e1, e2⟩ (hno k (by omega))
      · rw [if_neg ek, if_neg el] at e1
        rw [if_neg ek, if_neg el] at e2
        exact hA3 k l (by omega) (by omega) e1 e2
    · intro u' n' hn'
      have r15 : addA t u f 15 (32 * u' + n') = if 32 * u' + n' = 32 * u + t 6 f then 1 else t 15 (32 * u' + n') := by simp [up2, addA]
      rw [r15, r24]
      simp only [r22, r23, r6]
      by_cases e : 32 * u' + n' = 32 * u + t 6 f
      · have eu : u' = u := by omega
        have en : n' = t 6 f := by omega
        rw [if_pos e]
        refine ⟨fun _ => ⟨t 24 0, by omega, ?_, ?_⟩, fun _ => rfl⟩
        · rw [if_pos rfl]; exact eu.symm
        · rw [if_pos rfl]; exact en.symm
      · rw [if_neg e, hA4 u' n' hn']
        constructor
        · rintro ⟨k, hk, z1, z2⟩
          have ek : k ≠ t 24 0 := by omega
          exact ⟨k, by omega, by rw [if_neg ek]; exact z1, by rw [if_neg ek]; exact z2⟩
        · rintro ⟨k, hk, z1, z2⟩
          by_cases ek : k = t 24 0
          · rw [if_pos ek] at z1 z2
            exact absurd (by omega) e
          · rw [if_neg ek] at z1 z2
            exact ⟨k, by omega, z1, z2⟩
    · simpa [Few, up2, addA] using hF
    · simpa [up2, addA] using hR
    · simp [up2, addA]
    · simp [up2, addA]
    · simp [up2, addA]
    · simp [up2, addA]
    · rw [r24]; omega
    · simp [up2, addA]
    · simp [up2, addA]
    · simp [up2, addA]
    · simp [up2, addA]
    · intro k hk
      have e : k ≠ t 24 0 := by omega
      simp [up2, addA, e]
    · simp [up2, addA]
theorem SpAsk.det {l1 l2 : Int32} (hT : TOk t) (h1 : SpAsk t cur l1 l2 v t1 c1) (h2 : SpAsk t cur l1 l2 w t2 c2) : v = w ∧ t1 = t2 ∧ c1 = c2 := by
  have hU := hT.1.2.2.1
  rcases h1 with ⟨a1, rfl, rfl, rfl⟩ | ⟨u, hu, e1, h1⟩ <;> rcases h2 with ⟨b1, rfl, rfl, rfl⟩ | ⟨u', hu', e1', h2⟩
  · exact ⟨rfl, rfl, rfl⟩
  · exact absurd e1' (a1 u' hu')
  · exact absurd e1 (b1 u hu)
  · have x1 := nI_inj (by omega) (by omega) (e1.symm.trans e1')
    subst x1
    rcases h1 with ⟨a1, rfl, rfl, rfl⟩ | ⟨f, hf, a1, a2, a3⟩ <;> rcases h2 with ⟨b1, rfl, rfl, rfl⟩ | ⟨f', hf', b1, b2, b3⟩
    · exact ⟨rfl, rfl, rfl⟩
    · exact absurd b2 (a1 f' hf' b1)
    · exact absurd a2 (b1 f hf a1)
    · have h6 := (hT.1.2.2.2.2.1 f hf).2
      have h6' := (hT.1.2.2.2.2.1 f' hf').2
      have x2 := nI_inj (by omega) (by omega) (a2.symm.trans b2)
      have x3 := hT.2.2.1 f f' hf hf' (a1.trans b1.symm) x2
      subst x3
      rcases a3 with ⟨a4, rfl, rfl, rfl⟩ | ⟨a4, rfl, rfl, rfl⟩ <;> rcases b3 with ⟨b4, rfl, rfl, rfl⟩ | ⟨b4, rfl, rfl, rfl⟩
      · exact ⟨rfl, rfl, rfl⟩
      · exact absurd a4 b4
      · exact absurd b4 a4
      · exact ⟨rfl, rfl, rfl⟩
/-- turns -/
theorem SpTurn.inv {l1 l2 l3 l4 : Int32} (h : SI t d cur) (hs : SpTurn t cur l1 l2 l3 l4 v t' c1) : SI t' d c1 := by
  rcases hs with ⟨f, k, u, g, ⟨-, k2, -, k4, k5, k6, k7, k8, k9⟩, -, rfl, rfl⟩ | ⟨-, -, rfl, rfl⟩
  · obtain ⟨⟨d1, d2, d3, d4, d5, d6, d7⟩, ⟨f1, f2, f3⟩, hN, hA, hF, hR⟩ := id h.1
    have r16 : addT t f k u g 16 0 = t 16 0 + 1 := by simp [up2, addT]
    refine h.told ⟨⟨?_, ?_, ?_, ?_, ?_, ?_, ?_⟩, ⟨?_, ?_, ?_⟩, ?_, ?_, ?_, ?_⟩ ⟨⟨?_, ?_, ?_, ?_, ?_⟩, ?_, ?_, ?_, ?_, ?_, ?_⟩
    · simpa [up2, addT] using d1
    · simpa [up2, addT] using d2
    · simpa [up2, addT] using d3
    · rw [r16]; omega
    · simpa [up2, addT] using d5
    · simpa [up2, addT] using d6
    · intro r hr
      rw [r16] at hr
      by_cases e : r = t 16 0
      · simp [up2, addT, e]
        exact ⟨k2, k4, fun z => (k7 z).2.1, fun z => (k9 z).1⟩
      · have := d7 r (by omega)
        simp [up2, addT, e]; exact this
    · simpa [up2, addT] using f1
    · simpa [up2, addT] using f2
    · simpa [up2, addT] using f3
    · simpa [NU, up2, addT] using hN
    · simpa [AskOk, up2, addT] using hA
    · simpa [Few, up2, addT] using hF
    · simpa [up2, addT] using hR
    · simp [up2, addT]
    · simp [up2, addT]
    · simp [up2, addT]
    · rw [r16]; omega
    · simp [up2, addT]
    · simp [up2, addT]
    · simp [up2, addT]
    · simp [up2, addT]
    · intro r hr
      have e : r ≠ t 16 0 := by omega
      simp [up2, addT, e]
    · simp [up2, addT]
    · simp [up2, addT]
  · exact h
theorem SpTurn.det {l1 l2 l3 l4 : Int32} (hT : TOk t) (h1 : SpTurn t cur l1 l2 l3 l4 v t1 c1) (h2 : SpTurn t cur l1 l2 l3 l4 w t2 c2) : v = w ∧ t1 = t2 ∧ c1 = c2 := by
  have hF := hT.1.2.1
  have hU := hT.1.2.2.1
  rcases h1 with ⟨f, k, u, g, hV, rfl, rfl, rfl⟩ | ⟨a1, rfl, rfl, rfl⟩ <;> rcases h2 with ⟨f', k', u', g', hV', rfl, rfl, rfl⟩ | ⟨z1, rfl, rfl, rfl⟩
  · obtain ⟨p1, p2, p3, p4, p5, p6, p7, p8, p9⟩ := hV
    obtain ⟨q1, q2, q3, q4, q5, q6, q7, q8, q9⟩ := hV'
    have x1 := nI_inj (by omega) (by omega) (p1.symm.trans q1)
    have x2 := nI_inj (by omega) (by omega) (p3.symm.trans q3)
    subst x1; subst x2
    have x3 : u = u' := by
      by_cases hk : k = 0
      · rw [p6 hk, q6 hk]
      · obtain ⟨y1, y2, -⟩ := p7 hk
        obtain ⟨y1', y2', -⟩ := q7 hk
        exact nI_inj (by omega) (by omega) (y1.symm.trans y1')
    subst x3
    have x4 : g = g' := by
      by_cases hk : k = 1
      · rw [p8 hk, q8 hk]
      · obtain ⟨y1, y2, y3, -⟩ := p9 hk
        obtain ⟨y1', y2', y3', -⟩ := q9 hk
        have h6 := (hT.1.2.2.2.2.1 g y1).2
        have h6' := (hT.1.2.2.2.2.1 g' y1').2
        exact hT.2.2.1 g g' y1 y1' (y2.trans y2'.symm) (nI_inj (by omega) (by omega) (y3.symm.trans y3'))
    subst x4
    exact ⟨rfl, rfl, rfl⟩
  · exact absurd hV (z1 f k u g)
  · exact absurd hV' (a1 f' k' u' g')
  · exact ⟨rfl, rfl, rfl⟩
/-- runs -/
theorem SpRun.inv {l1 : Int32} (h : SI t d cur) (hx : ∀ pl, pl < 8 → l1 = nI pl → FX (snapd t pl) (stg (snapd t pl)) ∧ ∀ x, stg (snapd t pl) x ≤ 221) (hs : SpRun t d cur l1 v d1 c1) : SI t d1 c1 := by
  rcases hs with ⟨pl, M, e, hp, rfl, -, -, rfl⟩ | ⟨-, -, rfl, rfl⟩
  · obtain ⟨a, b⟩ := hx pl hp e
    obtain ⟨hD, hF, hN, hA, hFew, hR⟩ := id h.1
    exact ⟨h.1, snapd_DG hD hF hp, snapd_Sn hR, hA, a, b, fun _ => rfl⟩
  · exact h
theorem SpRun.det {l1 : Int32} (h1 : SpRun t d cur l1 v d1 c1) (h2 : SpRun t d cur l1 w d2 c2) : v = w ∧ d1 = d2 ∧ c1 = c2 := by
  rcases h1 with ⟨pl, M, e, hp, rfl, rfl, hg, rfl⟩ | ⟨a1, rfl, rfl, rfl⟩ <;> rcases h2 with ⟨pl', M', e', hp', rfl, rfl, hg', rfl⟩ | ⟨b1, rfl, rfl, rfl⟩
  · have x1 := nI_inj (by omega) (by omega) (e.symm.trans e')
    subst x1
    rw [hg.uniq hg']
    exact ⟨rfl, rfl, rfl⟩
  · exact absurd e (b1 pl hp)
  · exact absurd e' (a1 pl' hp')
  · exact ⟨rfl, rfl, rfl⟩
theorem SpSt.det {base N : Nat} {l1 l2 : Int32} (hN : N ≤ 60) (h1 : SpSt d base N l1 l2 v) (h2 : SpSt d base N l1 l2 w) : v = w := by
  rcases h1 with ⟨p, x, e1, a1, e2, a2, rfl⟩ | ⟨a1, rfl⟩ <;> rcases h2 with ⟨p', x', e1', b1, e2', b2, rfl⟩ | ⟨b1, rfl⟩
  · have x1 := nI_inj (by omega) (by omega) (e1.symm.trans e1')
    have x2 := nI_inj (by omega) (by omega) (e2.symm.trans e2')
    subst x1; subst x2
    rfl
  · exact (b1 p x e1 a1 e2 a2).elim
  · exact (a1 p' x' e1' b1 e2' b2).elim
  · rfl
theorem SpReas.det {l1 l2 : Int32} (hD : DOk d) (h1 : SpReas d l1 l2 v) (h2 : SpReas d l1 l2 w) : v = w := by
  have hF := hD.2.1
  rcases h1 with ⟨p, x, e1, a1, e2, a2, rfl⟩ | ⟨a1, rfl⟩ <;> rcases h2 with ⟨p', x', e1', b1, e2', b2, rfl⟩ | ⟨b1, rfl⟩
  · have x1 := nI_inj (by omega) (by omega) (e1.symm.trans e1')
    have x2 := nI_inj (by omega) (by omega) (e2.symm.trans e2')
    subst x1; subst x2
    rfl
  · exact (b1 p x e1 a1 e2 a2).elim
  · exact (a1 p' x' e1' b1 e2' b2).elim
  · rfl
theorem SpReason.det {l1 l2 l3 l4 : Int32} (hD : DOk d) (h1 : SpReason d l1 l2 l3 l4 v) (h2 : SpReason d l1 l2 l3 l4 w) : v = w := by
  have hF := hD.2.1
  rcases h1 with ⟨f, x, j, k, e1, a1, e2, a2, e3, a3, a4, a5⟩ | ⟨a1, rfl⟩ <;> rcases h2 with ⟨f', x', j', k', e1', b1, e2', b2, e3', b3, b4, b5⟩ | ⟨b1, rfl⟩
  · have x1 := nI_inj (by omega) (by omega) (e1.symm.trans e1')
    have x2 := nI_inj (by omega) (by omega) (e2.symm.trans e2')
    have x3 := nI_inj a3 b3 (e3.symm.trans e3')
    subst x1; subst x2; subst x3
    rw [a4] at b4
    cases b4
    rcases a5 with ⟨c1, c2⟩ | ⟨c1, c2⟩ | ⟨c1, c2, c3⟩ <;> rcases b5 with ⟨g1, g2⟩ | ⟨g1, g2⟩ | ⟨g1, g2, g3⟩
    · rw [c2, g2]
    · rw [c1] at g1; exact absurd g1 (by decide)
    · exact absurd c1 g1
    · rw [c1] at g1; exact absurd g1 (by decide)
    · rw [c2, g2]
    · exact absurd c1 g2
    · exact absurd g1 c1
    · exact absurd g1 c2
    · rw [c3, g3]
  · exact (b1 f x j k e1 a1 e2 a2 e3 a3 a4).elim
  · exact (a1 f' x' j' k' e1' b1 e2' b2 e3' b3 b4).elim
  · rfl
theorem SpClash.det {l1 l2 : Int32} (h1 : SpClash d l1 l2 v) (h2 : SpClash d l1 l2 w) : v = w := by
  rcases h1 with ⟨j, c, e1, a1, a2, a3⟩ | ⟨a1, rfl⟩ <;> rcases h2 with ⟨j', c', e1', b1, b2, b3⟩ | ⟨b1, rfl⟩
  · have x1 := nI_inj a1 b1 (e1.symm.trans e1')
    subst x1
    rw [a2] at b2
    cases b2
    rcases a3 with ⟨c1, c2⟩ | ⟨c1, c2⟩ | ⟨c1, c2⟩ | ⟨c1, c2, c3, c4⟩ <;> rcases b3 with ⟨g1, g2⟩ | ⟨g1, g2⟩ | ⟨g1, g2⟩ | ⟨g1, g2, g3, g4⟩
    · rw [c2, g2]
    · rw [c1] at g1; exact absurd g1 (by decide)
    · rw [c1] at g1; exact absurd g1 (by decide)
    · exact absurd c1 g1
    · rw [c1] at g1; exact absurd g1 (by decide)
    · rw [c2, g2]
    · rw [c1] at g1; exact absurd g1 (by decide)
    · exact absurd c1 g2
    · rw [c1] at g1; exact absurd g1 (by decide)
    · rw [c1] at g1; exact absurd g1 (by decide)
    · rw [c2, g2]
    · exact absurd c1 g3
    · exact absurd g1 c1
    · exact absurd g1 c2
    · exact absurd g1 c3
    · rw [c4, g4]
  · exact (b1 j c e1 a1 a2).elim
  · exact (a1 j' c' e1' b1 b2).elim
  · rfl
theorem SpLeft.det {l1 : Int32} (hl : lv.length ≤ 120) (h1 : SpLeft lv l1 v) (h2 : SpLeft lv l1 w) : v = w := by
  rcases h1 with ⟨i, k, e1, a1, a2, rfl⟩ | ⟨a1, rfl⟩ <;> rcases h2 with ⟨i', k', e1', b1, b2, rfl⟩ | ⟨b1, rfl⟩
  · have x1 := nI_inj (by omega) (by omega) (e1.symm.trans e1')
    subst x1
    rw [a2] at b2
    cases b2
    rfl
  · exact absurd e1 (b1 i a1)
  · exact absurd e1' (a1 i' b1)
  · rfl
theorem SpWo.det {l1 l2 : Int32} (hD : DOk t) (h1 : SpWo t d cur lv l1 l2 v lv1) (h2 : SpWo t d cur lv l1 l2 w lv2) : v = w ∧ lv1 = lv2 := by
  have hU := hD.2.2.1
  rcases h1 with ⟨u, n, a1, rfl, rfl⟩ | ⟨a1, rfl, rfl⟩ <;> rcases h2 with ⟨u', n', b1, rfl, rfl⟩ | ⟨b1, rfl, rfl⟩
  · have x1 := nI_inj (by have := a1.2.2.1; omega) (by have := b1.2.2.1; omega) (a1.2.1.symm.trans b1.2.1)
    have x2 := nI_inj (by have := a1.2.2.2.2.1; omega) (by have := b1.2.2.2.2.1; omega) (a1.2.2.2.1.symm.trans b1.2.2.2.1)
    subst x1; subst x2
    exact ⟨rfl, rfl⟩
  · exact absurd a1 (b1 u n)
  · exact absurd b1 (a1 u' n')
  · exact ⟨rfl, rfl⟩
theorem SpWo.len {l1 l2 : Int32} (hD : DOk d) (hl : lv.length ≤ 120) (h1 : SpWo t d cur lv l1 l2 v lv1) : lv1.length ≤ 120 := by
  rcases h1 with ⟨u, n, -, rfl, -⟩ | ⟨-, -, rfl⟩
  · have h1 := sel_len (pb (fun k => stg d (100 + k) ≠ 0 ∧ stg (up2 d 15 (32 * u + n) 0) (100 + k) = 0)) (2 * d 4 0)
    have h2 := hD.2.1
    unfold Lv
    omega
  · exact hl
end Iv
