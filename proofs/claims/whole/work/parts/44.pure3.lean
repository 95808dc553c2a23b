def Vd (d : Nat → Nat → Nat) (x : Nat) : Prop := (x < 20 ∧ x / 2 < d 0 0) ∨ (20 ≤ x ∧ x < 100 ∧ (x - 20) / 2 < d 8 0 ∧ d 14 ((x - 20) / 2) = 1) ∨ (100 ≤ x ∧ x < 220 ∧ (x - 100) / 2 < d 4 0)
theorem Vd_T {d : Nat → Nat → Nat} (hd : DOk d) {p s : Nat} (hp : p < d 0 0) (hs : s < 2) : Vd d (2 * p + s) := by
  have := hd.1
  refine Or.inl ⟨by omega, ?_⟩
  rw [show (2 * p + s) / 2 = p by omega]
  exact hp
theorem Vd_L {d : Nat → Nat → Nat} (hd : DOk d) {u s : Nat} (hu : u < d 8 0) (hc : d 14 u = 1) (hs : s < 2) : Vd d (20 + 2 * u + s) := by
  have := hd.2.2.1
  refine Or.inr (Or.inl ⟨by omega, by omega, ?_⟩)
  rw [show (20 + 2 * u + s - 20) / 2 = u by omega]
  exact ⟨hu, hc⟩
theorem Vd_O {d : Nat → Nat → Nat} (hd : DOk d) {f s : Nat} (hf : f < d 4 0) (hs : s < 2) : Vd d (100 + 2 * f + s) := by
  have := hd.2.1
  refine Or.inr (Or.inr ⟨by omega, by omega, ?_⟩)
  rw [show (100 + 2 * f + s - 100) / 2 = f by omega]
  exact hf
theorem Dv_valid {d : Nat → Nat → Nat} (hd : DOk d) {P : Nat → Prop} {it : Nat} (h : Dv d P it) : Vd d it := by
  obtain ⟨k1, k2, k3, k4, k5, k6, k7⟩ := id hd
  rcases h with ⟨p, h1, h2, h3⟩ | ⟨u, s, h1, h2, h3, h4, h5, h6⟩ | ⟨u, s, h1, h2, h3, h4⟩ | ⟨f, h1, h2, h3, h4, h5⟩ | ⟨u, s, f, h1, h2, h3, h4, h5, h6, h7⟩ | ⟨r, s, h1, h2, h3, h4, h5⟩ | ⟨r, s, h1, h2, h3, h4, h5, h6⟩ | ⟨r, s, h1, h2, h3, h4, h5, h6, h7⟩ | ⟨f, s, h1, h2, h3, h4, h5, h6⟩ | ⟨r, s, h1, h2, h3, h4, h5, h6⟩
  · rw [h3]
    exact Vd_T (s := 0) hd h1 (by omega)
  · rw [h6]
    exact Vd_L hd h1 h4 h2
  · rw [h4]
    exact Vd_T hd (k6 u h1).2 (far_lt h2)
  · rw [h5]
    exact Vd_O (s := 0) hd h1 (by omega)
  · rw [h7]
    exact Vd_O hd h3 (far_lt h2)
  · rw [h5]
    exact Vd_O hd ((k7 r h1).2.2.2 (by omega)) h2
  · rw [h6]
    exact Vd_O hd ((k7 r h1).2.2.2 (by omega)) (far_lt h2)
  · rw [h7]
    exact Vd_O hd ((k7 r h1).2.2.2 (by omega)) (far_lt h2)
  · rw [h6]
    exact Vd_O hd h1 h2
  · rw [h6]
    exact Vd_L hd ((k7 r h1).2.2.1 (by omega)) h4 h2
theorem BF_T {d : Nat → Nat → Nat} {f : Nat → Nat} {now p s it : Nat} (hp : p < 10) (hs : s < 2) (h : BT d f now p s it) : BF d f now (2 * p + s) it := by
  refine Or.inl ⟨by omega, ?_⟩
  rw [show (2 * p + s) / 2 = p by omega, show (2 * p + s) % 2 = s by omega]
  exact h
theorem BF_L {d : Nat → Nat → Nat} {f : Nat → Nat} {now u s it : Nat} (hu : u < 40) (hs : s < 2) (h : BL d f now u s it) : BF d f now (20 + 2 * u + s) it := by
  refine Or.inr (Or.inl ⟨by omega, by omega, ?_⟩)
  rw [show (20 + 2 * u + s - 20) / 2 = u by omega, show (20 + 2 * u + s) % 2 = s by omega]
  exact h
theorem BF_O {d : Nat → Nat → Nat} {f : Nat → Nat} {now t s it : Nat} (hs : s < 2) (h : BO d f now t s it) : BF d f now (100 + 2 * t + s) it := by
  refine Or.inr (Or.inr ⟨by omega, ?_⟩)
  rw [show (100 + 2 * t + s - 100) / 2 = t by omega, show (100 + 2 * t + s) % 2 = s by omega]
  exact h
/-- following an item misses nothing -/
theorem BF_compl {d : Nat → Nat → Nat} (hd : DOk d) {f : Nat → Nat} {now x : Nat} (hx : f x = now) (hn : now ≠ 0) {P : Nat → Prop} (hP : ∀ y, P y → 1 ≤ f y ∧ f y ≤ now) {it : Nat} (h : Dv d (fun y => P y ∨ y = x) it) : Dv d P it ∨ BF d f now x it := by
  obtain ⟨k1, k2, k3, k4, k5, k6, k7⟩ := id hd
  have hb : ∀ y, (P y ∨ y = x) → f y ≠ 0 ∧ f y ≤ now := fun y hy => by
    rcases hy with hy | hy
    · have := hP y hy
      omega
    · rw [hy]
      omega
  rcases h with ⟨p, h1, h2, h3⟩ | ⟨u, s, h1, h2, h3, h4, h5, h6⟩ | ⟨u, s, h1, h2, h3, h4⟩ | ⟨t, h1, h2, h3, h4, h5⟩ | ⟨u, s, t, h1, h2, h3, h4, h5, h6, h7⟩ | ⟨r, s, h1, h2, h3, h4, h5⟩ | ⟨r, s, h1, h2, h3, h4, h5, h6⟩ | ⟨r, s, h1, h2, h3, h4, h5, h6, h7⟩ | ⟨t, s, h1, h2, h3, h4, h5, h6⟩ | ⟨r, s, h1, h2, h3, h4, h5, h6⟩
  · exact Or.inl (Or.inl ⟨p, h1, h2, h3⟩)
  · rcases h5 with h5 | h5
    · exact Or.inl (Or.inr (Or.inl ⟨u, s, h1, h2, h3, h4, h5, h6⟩))
    · refine Or.inr ?_
      rw [← h5]
      exact BF_T (by have := (k6 u h1).1; omega) h2 (Or.inl ⟨u, h1, rfl, h3, h4, h6⟩)
  · rcases h3 with h3 | h3
    · exact Or.inl (Or.inr (Or.inr (Or.inl ⟨u, s, h1, h2, h3, h4⟩)))
    · refine Or.inr ?_
      rw [← h3]
      exact BF_L (by omega) h2 (Or.inl h4)
  · rcases h4 with h4 | h4
    · exact Or.inl (Or.inr (Or.inr (Or.inr (Or.inl ⟨t, h1, h2, h3, h4, h5⟩))))
    · refine Or.inr ?_
      rw [← h4]
      exact BF_T (s := 0) (by have := (k5 t h1).1; omega) (by omega) (Or.inr ⟨t, h1, rfl, Or.inl ⟨rfl, h2, h3⟩, h5⟩)
  · rcases h6 with h6 | h6
    · exact Or.inl (Or.inr (Or.inr (Or.inr (Or.inr (Or.inl ⟨u, s, t, h1, h2, h3, h4, h5, h6, h7⟩)))))
    · refine Or.inr ?_
      rw [← h6]
      exact BF_L (by omega) h2 (Or.inr (Or.inl ⟨t, h3, h4, h5, h7⟩))
  · rcases h4 with h4 | h4
    · exact Or.inl (Or.inr (Or.inr (Or.inr (Or.inr (Or.inr (Or.inl ⟨r, s, h1, h2, h3, h4, h5⟩))))))
    · refine Or.inr ?_
      rw [← h4]
      exact BF_O h2 (Or.inr ⟨r, h1, rfl, Or.inl ⟨h3, h5⟩⟩)
  · rcases h5 with h5 | h5
    · exact Or.inl (Or.inr (Or.inr (Or.inr (Or.inr (Or.inr (Or.inr (Or.inl ⟨r, s, h1, h2, h3, h4, h5, h6⟩)))))))
    · refine Or.inr ?_
      rw [← h5]
      exact BF_O h2 (Or.inr ⟨r, h1, rfl, Or.inr ⟨by omega, h4, Or.inr ⟨Or.inl h3, h6⟩⟩⟩)
  · have g5 := hb _ h5
    have g6 := hb _ h6
    rcases h5 with h5 | h5
    · rcases h6 with h6 | h6
      · exact Or.inl (Or.inr (Or.inr (Or.inr (Or.inr (Or.inr (Or.inr (Or.inr (Or.inl ⟨r, s, h1, h2, h3, h4, h5, h6, h7⟩))))))))
      · refine Or.inr ?_
        rw [← h6]
        exact BF_L (by have := (k7 r h1).2.2.1 (by omega); omega) h2 (Or.inr (Or.inr ⟨r, h1, h3, rfl, g5.1, g5.2, h7⟩))
    · refine Or.inr ?_
      rw [← h5]
      exact BF_O h2 (Or.inr ⟨r, h1, rfl, Or.inr ⟨by omega, h4, Or.inr ⟨Or.inr ⟨h3, g6⟩, h7⟩⟩⟩)
  · have g4 := hb _ h4
    have g5 := hb _ h5
    rcases h4 with h4 | h4
    · rcases h5 with h5 | h5
      · exact Or.inl (Or.inr (Or.inr (Or.inr (Or.inr (Or.inr (Or.inr (Or.inr (Or.inr (Or.inl ⟨t, s, h1, h2, h3, h4, h5, h6⟩)))))))))
      · refine Or.inr ?_
        rw [← h5]
        exact BF_T (by have := (k5 t h1).1; omega) h2 (Or.inr ⟨t, h1, rfl, Or.inr ⟨h3, g4⟩, h6⟩)
    · refine Or.inr ?_
      rw [← h4]
      refine BF_O (by omega) (Or.inl ⟨h3, ?_⟩)
      rw [show 1 - (1 - s) = s by omega]
      exact ⟨g5.1, g5.2, h6⟩
  · rcases h5 with h5 | h5
    · exact Or.inl (Or.inr (Or.inr (Or.inr (Or.inr (Or.inr (Or.inr (Or.inr (Or.inr (Or.inr ⟨r, s, h1, h2, h3, h4, h5, h6⟩)))))))))
    · refine Or.inr ?_
      rw [← h5]
      exact BF_O h2 (Or.inr ⟨r, h1, rfl, Or.inr ⟨by omega, h4, Or.inl ⟨h3, h6⟩⟩⟩)
/-- following an item brings nothing that the rules don't give -/
theorem BF_sound {d : Nat → Nat → Nat} {f : Nat → Nat} {now x : Nat} (hv : Vd d x) (hx : f x = now) (hn : now ≠ 0) {it : Nat} (h : BF d f now x it) : Dv d (fun y => 1 ≤ f y ∧ f y ≤ now) it := by
  have hxx : 1 ≤ f x ∧ f x ≤ now := by omega
  rcases h with ⟨hx1, h⟩ | ⟨hx1, hx2, h⟩ | ⟨hx1, h⟩
  · obtain ⟨p, s, hs, rfl⟩ : ∃ p s, s < 2 ∧ x = 2 * p + s := ⟨x / 2, x % 2, by omega, by omega⟩
    rw [show (2 * p + s) / 2 = p by omega, show (2 * p + s) % 2 = s by omega] at h
    rcases h with ⟨u, h1, rfl, h3, h4, h5⟩ | ⟨t, h1, rfl, ⟨rfl, h3, h4⟩ | ⟨h3, h4, h5⟩, h6⟩
    · exact Or.inr (Or.inl ⟨u, s, h1, hs, h3, h4, hxx, h5⟩)
    · exact Or.inr (Or.inr (Or.inr (Or.inl ⟨t, h1, h3, h4, hxx, h6⟩)))
    · exact Or.inr (Or.inr (Or.inr (Or.inr (Or.inr (Or.inr (Or.inr (Or.inr (Or.inl ⟨t, s, h1, hs, h3, ⟨by omega, h5⟩, hxx, h6⟩))))))))
  · obtain ⟨u, s, hs, rfl⟩ : ∃ u s, s < 2 ∧ x = 20 + 2 * u + s := ⟨(x - 20) / 2, x % 2, by omega, by omega⟩
    rw [show (20 + 2 * u + s - 20) / 2 = u by omega, show (20 + 2 * u + s) % 2 = s by omega] at h
    have hu : u < d 8 0 ∧ d 14 u = 1 := by
      rcases hv with ⟨g, -⟩ | ⟨-, -, g⟩ | ⟨g, -⟩
      · omega
      · rw [show (20 + 2 * u + s - 20) / 2 = u by omega] at g
        exact g
      · omega
    rcases h with h | ⟨t, h1, h2, h3, h4⟩ | ⟨r, h1, h2, h3, h4, h5, h6⟩
    · exact Or.inr (Or.inr (Or.inl ⟨u, s, hu.1, hs, hxx, h⟩))
    · exact Or.inr (Or.inr (Or.inr (Or.inr (Or.inl ⟨u, s, t, hu.1, hs, h1, h2, h3, hxx, h4⟩))))
    · subst h3
      exact Or.inr (Or.inr (Or.inr (Or.inr (Or.inr (Or.inr (Or.inr (Or.inl ⟨r, s, h1, hs, h2, hu.2, ⟨by omega, h5⟩, hxx, h6⟩)))))))
  · obtain ⟨t, s, hs, rfl⟩ : ∃ t s, s < 2 ∧ x = 100 + 2 * t + s := ⟨(x - 100) / 2, x % 2, by omega, by omega⟩
    rw [show (100 + 2 * t + s - 100) / 2 = t by omega, show (100 + 2 * t + s) % 2 = s by omega] at h
    have ht : t < d 4 0 := by
      rcases hv with ⟨g, -⟩ | ⟨-, g, -⟩ | ⟨-, -, g⟩
      · omega
      · omega
      · rw [show (100 + 2 * t + s - 100) / 2 = t by omega] at g
        exact g
    rcases h with ⟨h1, h2, h3, h4⟩ | ⟨r, h1, rfl, h3⟩
    · refine Or.inr (Or.inr (Or.inr (Or.inr (Or.inr (Or.inr (Or.inr (Or.inr (Or.inl ⟨t, 1 - s, ht, by omega, h1, ?_, ⟨by omega, h3⟩, h4⟩))))))))
      show 1 ≤ f (100 + 2 * t + (1 - (1 - s))) ∧ f (100 + 2 * t + (1 - (1 - s))) ≤ now
      rw [show 1 - (1 - s) = s by omega]
      exact hxx
    · rcases h3 with ⟨g1, g2⟩ | ⟨g1, g2, ⟨g3, g4⟩ | ⟨g3 | ⟨g3, g4, g5⟩, g6⟩⟩
      · exact Or.inr (Or.inr (Or.inr (Or.inr (Or.inr (Or.inl ⟨r, s, h1, hs, g1, hxx, g2⟩)))))
      · exact Or.inr (Or.inr (Or.inr (Or.inr (Or.inr (Or.inr (Or.inr (Or.inr (Or.inr ⟨r, s, h1, hs, g3, g2, hxx, g4⟩))))))))
      · exact Or.inr (Or.inr (Or.inr (Or.inr (Or.inr (Or.inr (Or.inl ⟨r, s, h1, hs, g3, g2, hxx, g6⟩))))))
      · exact Or.inr (Or.inr (Or.inr (Or.inr (Or.inr (Or.inr (Or.inr (Or.inl ⟨r, s, h1, hs, g3, g2, hxx, ⟨by omega, g5⟩, g6⟩)))))))
