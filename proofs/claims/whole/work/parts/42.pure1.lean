/-! stages: what two rules of closing have in common -/
theorem fx_uniq {Dv : (Nat → Prop) → Nat → Prop} (mono : ∀ (P Q : Nat → Prop) (it : Nat), (∀ x, P x → Q x) → Dv P it → Dv Q it) {f g : Nat → Nat}
    (f1 : ∀ it n, f it = n + 1 → Dv (fun x => 1 ≤ f x ∧ f x ≤ n) it) (f2 : ∀ it n, Dv (fun x => 1 ≤ f x ∧ f x ≤ n) it → 1 ≤ f it ∧ f it ≤ n + 1)
    (g1 : ∀ it n, g it = n + 1 → Dv (fun x => 1 ≤ g x ∧ g x ≤ n) it) (g2 : ∀ it n, Dv (fun x => 1 ≤ g x ∧ g x ≤ n) it → 1 ≤ g it ∧ g it ≤ n + 1) : ∀ it, f it = g it := by
  have key : ∀ n m : Nat, m ≤ n → ∀ it, (1 ≤ f it ∧ f it ≤ m) ↔ (1 ≤ g it ∧ g it ≤ m) := by
    intro n
    induction n with
    | zero => intro m hm it; omega
    | succ n ih =>
      intro m hm it
      by_cases hmn : m ≤ n
      · exact ih m hmn it
      · constructor
        · intro hh
          obtain ⟨k, hk⟩ : ∃ k, f it = k + 1 := ⟨f it - 1, by omega⟩
          have h1 := mono _ (fun x => 1 ≤ g x ∧ g x ≤ k) it (fun x hx => (ih k (by omega) x).mp hx) (f1 it k hk)
          have h2 := g2 it k h1
          omega
        · intro hh
          obtain ⟨k, hk⟩ : ∃ k, g it = k + 1 := ⟨g it - 1, by omega⟩
          have h1 := mono _ (fun x => 1 ≤ f x ∧ f x ≤ k) it (fun x hx => (ih k (by omega) x).mpr hx) (g1 it k hk)
          have h2 := f2 it k h1
          omega
  intro it
  have h1 := key (f it) (f it) (Nat.le_refl _) it
  have h2 := key (g it) (g it) (Nat.le_refl _) it
  omega
/-- how many of the first n are not 0 -/
def cnt (f : Nat → Nat) : Nat → Nat
  | 0 => 0
  | n + 1 => cnt f n + (if f n = 0 then 0 else 1)
def updN (f : Nat → Nat) (k v : Nat) : Nat → Nat := fun j => if j = k then v else f j
theorem updN_s (f : Nat → Nat) (k v : Nat) : updN f k v k = v := if_pos rfl
theorem updN_n (f : Nat → Nat) {k j : Nat} (v : Nat) (hj : j ≠ k) : updN f k v j = f j := if_neg hj
theorem cnt_le (f : Nat → Nat) : ∀ n, cnt f n ≤ n
  | 0 => Nat.le_refl _
  | n + 1 => by
    have := cnt_le f n
    simp only [cnt]
    split <;> omega
theorem cnt_lt (f : Nat → Nat) {k : Nat} (hk : f k = 0) : ∀ n, k < n → cnt f n < n
  | 0, h => by omega
  | n + 1, h => by
    simp only [cnt]
    have h0 := cnt_le f n
    by_cases hkn : k = n
    · subst hkn
      rw [if_pos hk]
      omega
    · have := cnt_lt f hk n (by omega)
      split <;> omega
theorem cnt_out (f : Nat → Nat) {k v : Nat} : ∀ n, n ≤ k → cnt (updN f k v) n = cnt f n
  | 0, _ => rfl
  | n + 1, h => by
    simp only [cnt]
    rw [cnt_out f n (by omega), updN_n f v (by omega)]
theorem cnt_upd (f : Nat → Nat) {k v : Nat} (hk : f k = 0) (hv : v ≠ 0) : ∀ n, k < n → cnt (updN f k v) n = cnt f n + 1
  | 0, h => by omega
  | n + 1, h => by
    simp only [cnt]
    by_cases hkn : k = n
    · subst hkn
      rw [cnt_out f k (Nat.le_refl _), updN_s, if_pos hk, if_neg hv]
    · rw [cnt_upd f hk hv n (by omega), updN_n f v (fun z => hkn z.symm)]
      omega
theorem cnt_zero {f : Nat → Nat} : ∀ n, (∀ i, i < n → f i = 0) → cnt f n = 0
  | 0, _ => rfl
  | n + 1, h => by
    simp only [cnt]
    rw [cnt_zero n (fun i hi => h i (by omega)), if_pos (h n (by omega))]
/-- a state of closing: stages, queue, its length -/
abbrev QS : Type := (Nat → Nat) × (Nat → Nat) × Nat
def QOk (s : QS) : Prop := s.2.2 = cnt s.1 220 ∧ (∀ x, s.1 x ≠ 0 → ∃ j, j < s.2.2 ∧ s.2.1 j = x) ∧ ∀ j, j < s.2.2 → s.2.1 j < 220 ∧ s.1 (s.2.1 j) ≠ 0
/-- what is in B and isn't there yet has come, at the stage a, at the queue's end -/
def Ext (a : Nat) (B : Nat → Prop) (s t : QS) : Prop :=
  (∀ it, (s.1 it = 0 ∧ B it → t.1 it = a) ∧ (¬ (s.1 it = 0 ∧ B it) → t.1 it = s.1 it)) ∧ s.2.2 ≤ t.2.2 ∧ (∀ j, j < s.2.2 → t.2.1 j = s.2.1 j) ∧ ∀ j, s.2.2 ≤ j → j < t.2.2 → s.1 (t.2.1 j) = 0 ∧ B (t.2.1 j)
theorem Ext.refl (a : Nat) {B : Nat → Prop} (s : QS) (hB : ∀ it, B it → s.1 it ≠ 0) : Ext a B s s :=
  ⟨fun it => ⟨fun h => absurd h.1 (hB it h.2), fun _ => rfl⟩, Nat.le_refl _, fun _ _ => rfl, fun j h1 h2 => by omega⟩
theorem Ext.none (a : Nat) (s : QS) : Ext a (fun _ => False) s s := Ext.refl a s (fun _ h => h.elim)
theorem Ext.congr {a : Nat} {B B' : Nat → Prop} {s t : QS} (h : Ext a B s t) (hB : ∀ it, B it ↔ B' it) : Ext a B' s t := by
  obtain rfl : B = B' := funext fun it => propext (hB it)
  exact h
theorem Ext.trans {a : Nat} (ha : a ≠ 0) {B1 B2 : Nat → Prop} {s t u : QS} (h1 : Ext a B1 s t) (h2 : Ext a B2 t u) : Ext a (fun it => B1 it ∨ B2 it) s u := by
  obtain ⟨a1, a2, a3, a4⟩ := h1
  obtain ⟨b1, b2, b3, b4⟩ := h2
  refine ⟨fun it => ⟨fun hh => ?_, fun hh => ?_⟩, by omega, fun j hj => (b3 j (by omega)).trans (a3 j hj), fun j hj1 hj2 => ?_⟩
  · by_cases hb : B1 it
    · have e := (a1 it).1 ⟨hh.1, hb⟩
      rw [(b1 it).2 (fun z => ha (e.symm.trans z.1))]
      exact e
    · have e := (a1 it).2 (fun z => hb z.2)
      exact (b1 it).1 ⟨e.trans hh.1, hh.2.resolve_left hb⟩
  · have e := (a1 it).2 (fun z => hh ⟨z.1, Or.inl z.2⟩)
    rw [(b1 it).2 (fun z => hh ⟨e.symm.trans z.1, Or.inr z.2⟩)]
    exact e
  · by_cases hj : j < t.2.2
    · rw [b3 j hj]
      exact ⟨(a4 j hj1 hj).1, Or.inl (a4 j hj1 hj).2⟩
    · obtain ⟨c1, c2⟩ := b4 j (by omega) hj2
      refine ⟨?_, Or.inr c2⟩
      rcases Nat.eq_zero_or_pos (s.1 (u.2.1 j)) with z | z
      · exact z
      · have := (a1 (u.2.1 j)).2 (fun w => by omega)
        omega
/-- one item -/
def bringQ (s : QS) (it a : Nat) : QS := if s.1 it = 0 then (updN s.1 it a, updN s.2.1 s.2.2 it, s.2.2 + 1) else s
theorem bringQ_ext {s : QS} {it a : Nat} (hi : it < 220) : Ext a (fun x => x = it) s (bringQ s it a) := by
  unfold bringQ
  split
  · rename_i h0
    refine ⟨fun x => ⟨fun hh => ?_, fun hh => ?_⟩, by simp, fun j hj => updN_n _ _ (by omega), fun j h1 h2 => ?_⟩
    · obtain ⟨-, rfl⟩ := hh
      exact updN_s _ _ _
    · refine updN_n _ _ (fun z => hh ?_)
      subst z
      exact ⟨h0, rfl⟩
    · have e : j = s.2.2 := by
        simp only at h2
        omega
      subst e
      show s.1 (updN s.2.1 s.2.2 it s.2.2) = 0 ∧ updN s.2.1 s.2.2 it s.2.2 = it
      rw [updN_s]
      exact ⟨h0, rfl⟩
  · rename_i h0
    exact Ext.refl a s (fun x hx => by rw [hx]; exact h0)
theorem bringQ_ok {s : QS} {it a : Nat} (hs : QOk s) (hi : it < 220) (ha : a ≠ 0) : QOk (bringQ s it a) := by
  unfold bringQ
  split
  · rename_i h0
    obtain ⟨h1, h2, h3⟩ := hs
    refine ⟨?_, fun x hx0 => ?_, fun j hj => ?_⟩
    · show s.2.2 + 1 = cnt (updN s.1 it a) 220
      rw [cnt_upd s.1 h0 ha 220 hi, ← h1]
    · by_cases hxi : x = it
      · exact ⟨s.2.2, Nat.lt_succ_self _, by rw [hxi]; exact updN_s _ _ _⟩
      · have hx1 : s.1 x ≠ 0 := by
          have e : updN s.1 it a x = s.1 x := updN_n _ _ hxi
          intro z
          exact hx0 (e.trans z)
        obtain ⟨j, hj, e⟩ := h2 x hx1
        exact ⟨j, by show j < s.2.2 + 1; omega, (updN_n _ _ (by omega)).trans e⟩
    · show updN s.2.1 s.2.2 it j < 220 ∧ updN s.1 it a (updN s.2.1 s.2.2 it j) ≠ 0
      have hj : j < s.2.2 + 1 := hj
      by_cases hjn : j = s.2.2
      · rw [hjn, updN_s]
        exact ⟨hi, by rw [updN_s]; exact ha⟩
      · rw [updN_n _ _ hjn]
        obtain ⟨g1, g2⟩ := h3 j (by omega)
        refine ⟨g1, ?_⟩
        by_cases hx : s.2.1 j = it
        · rw [hx, updN_s]; exact ha
        · rw [updN_n _ _ hx]; exact g2
  · exact hs
theorem QOk.lt {s : QS} (hs : QOk s) {it : Nat} (hi : it < 220) (h0 : s.1 it = 0) : s.2.2 < 220 := by
  rw [hs.1]
  exact cnt_lt s.1 h0 220 hi
theorem QOk.le {s : QS} (hs : QOk s) : s.2.2 ≤ 220 := by
  rw [hs.1]
  exact cnt_le s.1 220
/-- closing by a queue: before the item at the place i is followed -/
def QInv (Dv : (Nat → Prop) → Nat → Prop) (i : Nat) (s : QS) : Prop :=
  QOk s ∧ i ≤ s.2.2 ∧ (∀ x y, x ≤ y → y < s.2.2 → s.1 (s.2.1 x) ≤ s.1 (s.2.1 y)) ∧ (∀ x y, i ≤ x + 1 → x < s.2.2 → y < s.2.2 → s.1 (s.2.1 y) ≤ s.1 (s.2.1 x) + 1) ∧
  (∀ it k, s.1 it = k + 1 → Dv (fun x => 1 ≤ s.1 x ∧ s.1 x ≤ k) it) ∧ ∀ it k, Dv (fun x => (∃ j, j < i ∧ s.2.1 j = x) ∧ s.1 x ≤ k) it → 1 ≤ s.1 it ∧ s.1 it ≤ k + 1
theorem Ext.old {a : Nat} {B : Nat → Prop} {s t : QS} (h : Ext a B s t) {x : Nat} (hx : s.1 x ≠ 0) : t.1 x = s.1 x := (h.1 x).2 (fun z => hx z.1)
theorem QInv.step {Dv : (Nat → Prop) → Nat → Prop} (mono : ∀ (P Q : Nat → Prop) (it : Nat), (∀ x, P x → Q x) → Dv P it → Dv Q it) {i now : Nat} {s t : QS} {B : Nat → Prop} (hI : QInv Dv i s) (hi : i < s.2.2) (hnow : s.1 (s.2.1 i) = now) (hE : Ext (now + 1) B s t) (hok : QOk t) (hBl : ∀ it, B it → it < 220)
    (hB1 : ∀ it, B it → Dv (fun x => 1 ≤ s.1 x ∧ s.1 x ≤ now) it)
    (hB2 : ∀ (P : Nat → Prop), (∀ x, P x → 1 ≤ s.1 x ∧ s.1 x ≤ now) → ∀ it, Dv (fun x => P x ∨ x = s.2.1 i) it → Dv P it ∨ B it) : QInv Dv (i + 1) t := by
  obtain ⟨hok0, hle, hC, hC1, hD, hF⟩ := hI
  have hnow0 : now ≠ 0 := by
    rw [← hnow]
    exact (hok0.2.2 i hi).2
  have hold : ∀ x, s.1 x ≠ 0 → t.1 x = s.1 x := fun x hx => hE.old hx
  have hq : ∀ j, j < s.2.2 → t.2.1 j = s.2.1 j := hE.2.2.1
  have hfq : ∀ j, j < s.2.2 → t.1 (t.2.1 j) = s.1 (s.2.1 j) := fun j hj => by
    rw [hq j hj]
    exact hold _ (hok0.2.2 j hj).2
  have hnew : ∀ j, s.2.2 ≤ j → j < t.2.2 → t.1 (t.2.1 j) = now + 1 := fun j h1 h2 => (hE.1 _).1 (hE.2.2.2 j h1 h2)
  have hup : ∀ j, j < t.2.2 → t.1 (t.2.1 j) ≤ now + 1 := fun j hj => by
    by_cases h : j < s.2.2
    · rw [hfq j h, ← hnow]
      exact hC1 i j (by omega) hi h
    · rw [hnew j (by omega) hj]
      exact Nat.le_refl _
  have hlow : ∀ j, i ≤ j → j < t.2.2 → now ≤ t.1 (t.2.1 j) := fun j h1 hj => by
    by_cases h : j < s.2.2
    · rw [hfq j h, ← hnow]
      exact hC i j h1 h
    · rw [hnew j (by omega) hj]
      omega
  have hgrow : ∀ k x, (1 ≤ s.1 x ∧ s.1 x ≤ k) → (1 ≤ t.1 x ∧ t.1 x ≤ k) := fun k x hx => by
    rw [hold x (by omega)]
    exact hx
  have hle2 := hE.2.1
  refine ⟨hok, by omega, fun x y hxy hy => ?_, fun x y hx hx2 hy => ?_, fun it k hk => ?_, fun it k hdv => ?_⟩
  · by_cases h : y < s.2.2
    · rw [hfq y h, hfq x (by omega)]
      exact hC x y hxy h
    · rw [hnew y (by omega) hy]
      exact hup x (by omega)
  · have h1 := hup y hy
    have h2 := hlow x (by omega) hx2
    omega
  · by_cases h0 : s.1 it = 0
    · by_cases hb : B it
      · have e := (hE.1 it).1 ⟨h0, hb⟩
        obtain rfl : k = now := by omega
        exact mono _ _ it (hgrow k) (hB1 it hb)
      · have e := (hE.1 it).2 (fun z => hb z.2)
        omega
    · rw [hold it h0] at hk
      exact mono _ _ it (hgrow k) (hD it k hk)
  · have hPs : ∀ x, ((∃ j, j < i ∧ s.2.1 j = x) ∧ s.1 x ≤ k) → 1 ≤ s.1 x ∧ s.1 x ≤ now := by
      rintro x ⟨⟨j, hj, rfl⟩, -⟩
      have h1 := (hok0.2.2 j (by omega)).2
      have h2 := hC j i (by omega) hi
      omega
    have fin : Dv (fun x => (∃ j, j < i ∧ s.2.1 j = x) ∧ s.1 x ≤ k) it → 1 ≤ t.1 it ∧ t.1 it ≤ k + 1 := fun hd => by
      have h1 := hF it k hd
      rw [hold it (by omega)]
      exact h1
    have hsub : ∀ x, ((∃ j, j < i + 1 ∧ t.2.1 j = x) ∧ t.1 x ≤ k) → ((∃ j, j < i ∧ s.2.1 j = x) ∧ s.1 x ≤ k) ∨ (x = s.2.1 i ∧ now ≤ k) := by
      rintro x ⟨⟨j, hj, rfl⟩, hx⟩
      by_cases hji : j = i
      · subst hji
        rw [hfq j hi, hnow] at hx
        exact Or.inr ⟨hq j hi, hx⟩
      · rw [hfq j (by omega)] at hx
        rw [hq j (by omega)]
        exact Or.inl ⟨⟨j, by omega, rfl⟩, hx⟩
    by_cases hk : now ≤ k
    · rcases hB2 _ hPs it (mono _ _ it (fun x hx => (hsub x hx).imp id (fun z => z.1)) hdv) with h | h
      · exact fin h
      · by_cases h0 : s.1 it = 0
        · have e := (hE.1 it).1 ⟨h0, h⟩
          omega
        · obtain ⟨j, hj, rfl⟩ := hok0.2.1 it h0
          have h1 := hC1 i j (by omega) hi hj
          rw [hold _ h0]
          omega
    · exact fin (mono _ _ it (fun x hx => (hsub x hx).elim id (fun z => absurd z.2 hk)) hdv)
theorem QInv.init {Dv : (Nat → Prop) → Nat → Prop} {B0 : Nat → Prop} {s0 s : QS} (h0 : ∀ x, s0.1 x = 0) (hn : s0.2.2 = 0) (hE : Ext 1 B0 s0 s) (hok : QOk s) (hD : ∀ P it, B0 it → Dv P it) (hD2 : ∀ it, Dv (fun _ => False) it → B0 it)
    (mono : ∀ (P Q : Nat → Prop) (it : Nat), (∀ x, P x → Q x) → Dv P it → Dv Q it) : QInv Dv 0 s := by
  have hone : ∀ x, s.1 x ≠ 0 → s.1 x = 1 ∧ B0 x := fun x hx => by
    by_cases hb : B0 x
    · exact ⟨(hE.1 x).1 ⟨h0 x, hb⟩, hb⟩
    · exact absurd (((hE.1 x).2 (fun z => hb z.2)).trans (h0 x)) hx
  have hq1 : ∀ j, j < s.2.2 → s.1 (s.2.1 j) = 1 := fun j hj => (hone _ (hok.2.2 j hj).2).1
  refine ⟨hok, Nat.zero_le _, fun x y hxy hy => ?_, fun x y hx hx2 hy => ?_, fun it k hk => ?_, fun it k hd => ?_⟩
  · rw [hq1 x (by omega), hq1 y hy]
    exact Nat.le_refl _
  · rw [hq1 x hx2, hq1 y hy]
    omega
  · exact hD _ it (hone it (by omega)).2
  · have hb := hD2 it (mono _ _ it (fun x hx => by obtain ⟨⟨j, hj, -⟩, -⟩ := hx; omega) hd)
    have e := (hE.1 it).1 ⟨h0 it, hb⟩
    omega
theorem QInv.done {Dv : (Nat → Prop) → Nat → Prop} (mono : ∀ (P Q : Nat → Prop) (it : Nat), (∀ x, P x → Q x) → Dv P it → Dv Q it) {s : QS} (hI : QInv Dv s.2.2 s) :
    (∀ it k, s.1 it = k + 1 → Dv (fun x => 1 ≤ s.1 x ∧ s.1 x ≤ k) it) ∧ ∀ it k, Dv (fun x => 1 ≤ s.1 x ∧ s.1 x ≤ k) it → 1 ≤ s.1 it ∧ s.1 it ≤ k + 1 := by
  obtain ⟨hok, -, -, -, hD, hF⟩ := hI
  refine ⟨hD, fun it k hd => hF it k (mono _ _ it (fun x hx => ⟨hok.2.1 x (by omega), hx.2⟩) hd)⟩
theorem Ext.byn {n : Nat} {B : Nat → Prop} {s t : QS} (h : Ext (n + 1) B s t) (x : Nat) : (t.1 x ≠ 0 ∧ t.1 x ≤ n) ↔ (s.1 x ≠ 0 ∧ s.1 x ≤ n) := by
  by_cases hb : s.1 x = 0 ∧ B x
  · rw [(h.1 x).1 hb]
    omega
  · rw [(h.1 x).2 hb]
