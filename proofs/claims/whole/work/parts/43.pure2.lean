/-! the rules of the closing, over the numbers d: 0 packages, 1 roots, 2 roots with defaults, 3 apart, 4 features, 5 their package, 6 name, 7 by default, 8 users, 9 from, 10 to, 11 defaults, 12 build, 13 optional, 14 for the platform, 15 asks (32 u + name), 16 turns, 17 feature, 18 kind, 19 user, 20 target -/
def far (d : Nat → Nat → Nat) (u s : Nat) : Nat := if d 12 u = 1 then 1 else s
def Dv (d : Nat → Nat → Nat) (P : Nat → Prop) (it : Nat) : Prop :=
  (∃ p, p < d 0 0 ∧ d 1 p = 1 ∧ it = 2 * p) ∨
  (∃ u s, u < d 8 0 ∧ s < 2 ∧ d 13 u = 0 ∧ d 14 u = 1 ∧ P (2 * d 9 u + s) ∧ it = 20 + 2 * u + s) ∨
  (∃ u s, u < d 8 0 ∧ s < 2 ∧ P (20 + 2 * u + s) ∧ it = 2 * d 10 u + far d u s) ∨
  (∃ f, f < d 4 0 ∧ d 7 f = 1 ∧ d 2 (d 5 f) = 1 ∧ P (2 * d 5 f) ∧ it = 100 + 2 * f) ∨
  (∃ u s f, u < d 8 0 ∧ s < 2 ∧ f < d 4 0 ∧ d 5 f = d 10 u ∧ (d 15 (32 * u + d 6 f) = 1 ∨ (d 11 u = 1 ∧ d 7 f = 1)) ∧ P (20 + 2 * u + s) ∧ it = 100 + 2 * f + far d u s) ∨
  (∃ r s, r < d 16 0 ∧ s < 2 ∧ d 18 r = 0 ∧ P (100 + 2 * d 17 r + s) ∧ it = 100 + 2 * d 20 r + s) ∨
  (∃ r s, r < d 16 0 ∧ s < 2 ∧ d 18 r = 2 ∧ d 14 (d 19 r) = 1 ∧ P (100 + 2 * d 17 r + s) ∧ it = 100 + 2 * d 20 r + far d (d 19 r) s) ∨
  (∃ r s, r < d 16 0 ∧ s < 2 ∧ d 18 r = 3 ∧ d 14 (d 19 r) = 1 ∧ P (100 + 2 * d 17 r + s) ∧ P (20 + 2 * d 19 r + s) ∧ it = 100 + 2 * d 20 r + far d (d 19 r) s) ∨
  (∃ f s, f < d 4 0 ∧ s < 2 ∧ d 3 (d 5 f) = 0 ∧ P (100 + 2 * f + (1 - s)) ∧ P (2 * d 5 f + s) ∧ it = 100 + 2 * f + s) ∨
  (∃ r s, r < d 16 0 ∧ s < 2 ∧ (d 18 r = 1 ∨ d 18 r = 2) ∧ d 14 (d 19 r) = 1 ∧ P (100 + 2 * d 17 r + s) ∧ it = 20 + 2 * d 19 r + s)
theorem Dv_mono (d : Nat → Nat → Nat) (P Q : Nat → Prop) (it : Nat) (hPQ : ∀ x, P x → Q x) (h : Dv d P it) : Dv d Q it := by
  rcases h with h | ⟨u, s, h1, h2, h3, h4, h5, h6⟩ | ⟨u, s, h1, h2, h3, h4⟩ | ⟨f, h1, h2, h3, h4, h5⟩ | ⟨u, s, f, h1, h2, h3, h4, h5, h6, h7⟩ | ⟨r, s, h1, h2, h3, h4, h5⟩ | ⟨r, s, h1, h2, h3, h4, h5, h6⟩ | ⟨r, s, h1, h2, h3, h4, h5, h6, h7⟩ | ⟨f, s, h1, h2, h3, h4, h5, h6⟩ | ⟨r, s, h1, h2, h3, h4, h5, h6⟩
  · exact Or.inl h
  · exact Or.inr (Or.inl ⟨u, s, h1, h2, h3, h4, hPQ _ h5, h6⟩)
  · exact Or.inr (Or.inr (Or.inl ⟨u, s, h1, h2, hPQ _ h3, h4⟩))
  · exact Or.inr (Or.inr (Or.inr (Or.inl ⟨f, h1, h2, h3, hPQ _ h4, h5⟩)))
  · exact Or.inr (Or.inr (Or.inr (Or.inr (Or.inl ⟨u, s, f, h1, h2, h3, h4, h5, hPQ _ h6, h7⟩))))
  · exact Or.inr (Or.inr (Or.inr (Or.inr (Or.inr (Or.inl ⟨r, s, h1, h2, h3, hPQ _ h4, h5⟩)))))
  · exact Or.inr (Or.inr (Or.inr (Or.inr (Or.inr (Or.inr (Or.inl ⟨r, s, h1, h2, h3, h4, hPQ _ h5, h6⟩))))))
  · exact Or.inr (Or.inr (Or.inr (Or.inr (Or.inr (Or.inr (Or.inr (Or.inl ⟨r, s, h1, h2, h3, h4, hPQ _ h5, hPQ _ h6, h7⟩)))))))
  · exact Or.inr (Or.inr (Or.inr (Or.inr (Or.inr (Or.inr (Or.inr (Or.inr (Or.inl ⟨f, s, h1, h2, h3, hPQ _ h4, hPQ _ h5, h6⟩))))))))
  · exact Or.inr (Or.inr (Or.inr (Or.inr (Or.inr (Or.inr (Or.inr (Or.inr (Or.inr ⟨r, s, h1, h2, h3, h4, hPQ _ h5, h6⟩))))))))
/-- the data are within their bounds -/
def DOk (d : Nat → Nat → Nat) : Prop :=
  d 0 0 ≤ 10 ∧ d 4 0 ≤ 60 ∧ d 8 0 ≤ 40 ∧ d 16 0 ≤ 60 ∧ (∀ f, f < d 4 0 → d 5 f < d 0 0 ∧ d 6 f < 32) ∧ (∀ u, u < d 8 0 → d 9 u < d 0 0 ∧ d 10 u < d 0 0) ∧
  (∀ r, r < d 16 0 → d 17 r < d 4 0 ∧ d 18 r < 4 ∧ (d 18 r ≠ 0 → d 19 r < d 8 0) ∧ (d 18 r ≠ 1 → d 20 r < d 4 0))
theorem far_lt {d : Nat → Nat → Nat} {u s : Nat} (hs : s < 2) : far d u s < 2 := by
  unfold far
  split <;> omega
/-- what following an item brings: a package there, a user live, a feature on; f tells the stages, now is the item's -/
def BT (d : Nat → Nat → Nat) (f : Nat → Nat) (now p s : Nat) (it : Nat) : Prop :=
  (∃ u, u < d 8 0 ∧ d 9 u = p ∧ d 13 u = 0 ∧ d 14 u = 1 ∧ it = 20 + 2 * u + s) ∨
  (∃ t, t < d 4 0 ∧ d 5 t = p ∧ ((s = 0 ∧ d 7 t = 1 ∧ d 2 p = 1) ∨ (d 3 p = 0 ∧ f (100 + 2 * t + (1 - s)) ≠ 0 ∧ f (100 + 2 * t + (1 - s)) ≤ now)) ∧ it = 100 + 2 * t + s)
def BL (d : Nat → Nat → Nat) (f : Nat → Nat) (now u s : Nat) (it : Nat) : Prop :=
  it = 2 * d 10 u + far d u s ∨ (∃ t, t < d 4 0 ∧ d 5 t = d 10 u ∧ (d 15 (32 * u + d 6 t) = 1 ∨ (d 11 u = 1 ∧ d 7 t = 1)) ∧ it = 100 + 2 * t + far d u s) ∨
  (∃ r, r < d 16 0 ∧ d 18 r = 3 ∧ d 19 r = u ∧ f (100 + 2 * d 17 r + s) ≠ 0 ∧ f (100 + 2 * d 17 r + s) ≤ now ∧ it = 100 + 2 * d 20 r + far d u s)
def BR (d : Nat → Nat → Nat) (f : Nat → Nat) (now s r : Nat) (it : Nat) : Prop :=
  (d 18 r = 0 ∧ it = 100 + 2 * d 20 r + s) ∨ (d 18 r ≠ 0 ∧ d 14 (d 19 r) = 1 ∧ (((d 18 r = 1 ∨ d 18 r = 2) ∧ it = 20 + 2 * d 19 r + s) ∨
    ((d 18 r = 2 ∨ (d 18 r = 3 ∧ f (20 + 2 * d 19 r + s) ≠ 0 ∧ f (20 + 2 * d 19 r + s) ≤ now)) ∧ it = 100 + 2 * d 20 r + far d (d 19 r) s)))
def BO (d : Nat → Nat → Nat) (f : Nat → Nat) (now t s : Nat) (it : Nat) : Prop :=
  (d 3 (d 5 t) = 0 ∧ f (2 * d 5 t + (1 - s)) ≠ 0 ∧ f (2 * d 5 t + (1 - s)) ≤ now ∧ it = 100 + 2 * t + (1 - s)) ∨ ∃ r, r < d 16 0 ∧ d 17 r = t ∧ BR d f now s r it
def BF (d : Nat → Nat → Nat) (f : Nat → Nat) (now x : Nat) (it : Nat) : Prop :=
  (x < 20 ∧ BT d f now (x / 2) (x % 2) it) ∨ (20 ≤ x ∧ x < 100 ∧ BL d f now ((x - 20) / 2) (x % 2) it) ∨ (100 ≤ x ∧ BO d f now ((x - 100) / 2) (x % 2) it)
