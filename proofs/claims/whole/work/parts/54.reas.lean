/-! reasons: by kind and number -/
def RsK (d : Dt) (P : Nat → Prop) (f x k n : Nat) : Prop :=
  (k = 0 ∧ d 5 f = n ∧ x = 0 ∧ (d 7 f = 1 ∧ d 2 (d 5 f) = 1) ∧ P (2 * n)) ∨
  (k = 1 ∧ n / 2 < d 8 0 ∧ P (20 + 2 * (n / 2) + n % 2) ∧ far d (n / 2) (n % 2) = x ∧ d 5 f = d 10 (n / 2) ∧ d 15 (32 * (n / 2) + d 6 f) = 1) ∨
  (k = 2 ∧ n / 2 < d 8 0 ∧ P (20 + 2 * (n / 2) + n % 2) ∧ far d (n / 2) (n % 2) = x ∧ d 5 f = d 10 (n / 2) ∧ d 11 (n / 2) = 1 ∧ d 7 f = 1) ∨
  (k = 3 ∧ n / 2 < d 16 0 ∧ d 18 (n / 2) = 0 ∧ d 20 (n / 2) = f ∧ P (100 + 2 * d 17 (n / 2) + n % 2) ∧ n % 2 = x) ∨
  (k = 4 ∧ n / 2 < d 16 0 ∧ d 18 (n / 2) = 2 ∧ d 20 (n / 2) = f ∧ P (100 + 2 * d 17 (n / 2) + n % 2) ∧ d 14 (d 19 (n / 2)) = 1 ∧ far d (d 19 (n / 2)) (n % 2) = x) ∨
  (k = 5 ∧ n / 2 < d 16 0 ∧ d 18 (n / 2) = 3 ∧ d 20 (n / 2) = f ∧ P (100 + 2 * d 17 (n / 2) + n % 2) ∧ d 14 (d 19 (n / 2)) = 1 ∧ far d (d 19 (n / 2)) (n % 2) = x ∧ P (20 + 2 * d 19 (n / 2) + n % 2)) ∨
  (k = 6 ∧ n = 2 * f + (1 - x) ∧ d 3 (d 5 f) = 0 ∧ P (100 + 2 * f + (1 - x)) ∧ P (2 * d 5 f + x))
/-- a question: 1 or 0 -/
def HB (p : Prop) (s : Sg) (o : Ro) : Prop := (p → o = some (1, s)) ∧ (¬ p → o = some (0, s))
theorem HB.yes {p : Prop} {s : Sg} {o : Ro} (h : p) (e : o = some (1, s)) : HB p s o := ⟨fun _ => e, fun g => absurd h g⟩
theorem HB.no {p : Prop} {s : Sg} {o : Ro} (h : ¬ p) (e : o = some (0, s)) : HB p s o := ⟨fun g => absurd g h, fun _ => e⟩
theorem HB.congr {p p' : Prop} {s : Sg} {o : Ro} (h : HB p s o) (e : p ↔ p') : HB p' s o := ⟨fun g => h.1 (e.mpr g), fun g => h.2 (fun z => g (e.mp z))⟩
theorem HB.ret {p : Prop} {s : Sg} {o : Ro} (h : HB p s o) : HB p s (bnd o (fun v s1 => if isb v = true then some (v, s1) else none)) := by
  refine ⟨fun g => ?_, fun g => ?_⟩
  · rw [h.1 g]; rfl
  · rw [h.2 g]; rfl
section Reas
variable {s : Sg} {q : QS} {d : Dt}
theorem F_byRoot (hG : DG d) (hD : DC d s) (hR : CRep 23 s q) {n f x : Nat} (hn : n < 128) (hf : f < d 4 0) (hx : x < 2) :
    HB (d 5 f = n ∧ x = 0 ∧ (d 7 f = 1 ∧ d 2 (d 5 f) = 1) ∧ q.1 (2 * n) ≠ 0) s (f_Reas_isByRoot (nI n) (nI f) (nI x) s) := by
  have hFn := hG.1.2.1
  have hPn := hG.1.1
  have h5 := (hG.1.2.2.2.2.1 f hf).1
  unfold f_Reas_isByRoot
  rw [if_pos (inb_nI (by omega) (by omega)), ix_nI (by omega), (hD.2.2.1 f hf).1]
  by_cases h1 : d 5 f = n
  · rw [if_pos (by rw [h1])]
    by_cases h2 : x = 0
    · rw [if_pos ((nI_l0 (by omega)).mpr h2), F_rootd hG hD hf, bnd_some]
      by_cases h3 : d 7 f = 1 ∧ d 2 (d 5 f) = 1
      · rw [if_pos h3, if_neg (by decide)]
        have e : f_Clo_thereStage 23 (nI n) 0 s = some (nI (q.1 (2 * n + 0)), s) := F_thereStage (x := 0) hR (by omega) (by omega)
        rw [e, bnd_some, Nat.add_zero]
        by_cases h4 : q.1 (2 * n) = 0
        · rw [if_pos ((nI_l0 hR.lt).mpr h4)]
          exact HB.no (fun z => z.2.2.2 h4) rfl
        · rw [if_neg (fun e => h4 ((nI_l0 hR.lt).mp e))]
          exact HB.yes ⟨h1, h2, h3, h4⟩ rfl
      · rw [if_neg h3, if_pos rfl]
        exact HB.no (fun z => h3 z.2.2.1) rfl
    · rw [if_neg (fun e => h2 ((nI_l0 (by omega)).mp e))]
      exact HB.no (fun z => h2 z.2.1) rfl
  · rw [if_neg (fun e => h1 ((nI_eq (by omega) (by omega)).mp e))]
    exact HB.no (fun z => h1 z.1) rfl
theorem F_byUser (hG : DG d) (hD : DC d s) (hR : CRep 23 s q) {k n f x : Nat} (hk : k = 1 ∨ k = 2) (hn : n < 128) (hf : f < d 4 0) (hx : x < 2) :
    HB (n / 2 < d 8 0 ∧ q.1 (20 + 2 * (n / 2) + n % 2) ≠ 0 ∧ far d (n / 2) (n % 2) = x ∧ d 5 f = d 10 (n / 2) ∧ ((k = 1 ∧ d 15 (32 * (n / 2) + d 6 f) = 1) ∨ (k = 2 ∧ d 11 (n / 2) = 1 ∧ d 7 f = 1))) s (f_Reas_isByUser (nI k) (nI n) (nI f) (nI x) s) := by
  have hFn := hG.1.2.1
  have hUn := hG.1.2.2.1
  unfold f_Reas_isByUser
  rw [n_side (by omega), n_half (by omega), hD.1.1.2.2.2.1]
  by_cases h1 : n / 2 < d 8 0
  · rw [if_neg (fun e => by have := (nI_leI (by omega) (by omega)).mp e; omega), F_liveStage hR (by omega) (by omega), bnd_some]
    by_cases h2 : q.1 (20 + 2 * (n / 2) + n % 2) = 0
    · rw [if_pos ((nI_l0 hR.lt).mpr h2)]
      exact HB.no (fun z => z.2.1 h2) rfl
    · rw [if_neg (fun e => h2 ((nI_l0 hR.lt).mp e)), F_far hG hD h1, bnd_some]
      have hfl : far d (n / 2) (n % 2) < 2 := far_lt (by omega)
      by_cases h3 : far d (n / 2) (n % 2) = x
      · rw [if_pos (by rw [h3])]
        by_cases h4 : k = 1
        · rw [if_pos ((nI_l1 (by omega)).mpr h4), F_asked hG hD h1 hf, bnd_some]
          by_cases h5 : d 5 f = d 10 (n / 2) ∧ d 15 (32 * (n / 2) + d 6 f) = 1
          · rw [if_pos h5]
            exact HB.yes ⟨h1, h2, h3, h5.1, Or.inl ⟨h4, h5.2⟩⟩ rfl
          · rw [if_neg h5]
            refine HB.no (fun z => ?_) rfl
            rcases z.2.2.2.2 with g | g
            · exact h5 ⟨z.2.2.2.1, g.2⟩
            · omega
        · rw [if_neg (fun e => h4 ((nI_l1 (by omega)).mp e)), F_dflt hG hD h1 hf, bnd_some]
          by_cases h5 : d 5 f = d 10 (n / 2) ∧ d 11 (n / 2) = 1 ∧ d 7 f = 1
          · rw [if_pos h5]
            exact HB.yes ⟨h1, h2, h3, h5.1, Or.inr ⟨by omega, h5.2⟩⟩ rfl
          · rw [if_neg h5]
            refine HB.no (fun z => ?_) rfl
            rcases z.2.2.2.2 with g | g
            · omega
            · exact h5 ⟨z.2.2.2.1, g.2⟩
      · rw [if_neg (fun e => h3 ((nI_eq (by omega) (by omega)).mp e))]
        exact HB.no (fun z => h3 z.2.2.1) rfl
  · rw [if_pos ((nI_leI (by omega) (by omega)).mpr (by omega))]
    exact HB.no (fun z => h1 z.1) rfl
theorem F_byTurn (hG : DG d) (hD : DC d s) (hR : CRep 23 s q) {k n f x : Nat} (hk : k = 3 ∨ k = 4 ∨ k = 5) (hn : n < 128) (hf : f < d 4 0) (hx : x < 2) :
    HB (n / 2 < d 16 0 ∧ (d 18 (n / 2) ≠ 1 ∧ d 20 (n / 2) = f) ∧ q.1 (100 + 2 * d 17 (n / 2) + n % 2) ≠ 0 ∧ ((k = 3 ∧ d 18 (n / 2) = 0 ∧ n % 2 = x) ∨ (k = 4 ∧ d 18 (n / 2) = 2 ∧ d 14 (d 19 (n / 2)) = 1 ∧ far d (d 19 (n / 2)) (n % 2) = x) ∨ (k = 5 ∧ d 18 (n / 2) = 3 ∧ d 14 (d 19 (n / 2)) = 1 ∧ far d (d 19 (n / 2)) (n % 2) = x ∧ q.1 (20 + 2 * d 19 (n / 2) + n % 2) ≠ 0))) s (f_Reas_isByTurn (nI k) (nI n) (nI f) (nI x) s) := by
  have hFn := hG.1.2.1
  have hUn := hG.1.2.2.1
  have hTn := hG.1.2.2.2.1
  unfold f_Reas_isByTurn
  rw [n_side (by omega), n_half (by omega), hD.1.1.2.2.2.2]
  by_cases h1 : n / 2 < d 16 0
  · have ht := hG.1.2.2.2.2.2.2 (n / 2) h1
    have hr := hD.2.2.2.2 (n / 2) h1
    rw [if_neg (fun e => by have := (nI_leI (by omega) (by omega)).mp e; omega), if_pos (inb_nI (by omega) (by omega)), ix_nI (by omega)]
    by_cases h2 : d 18 (n / 2) ≠ 1 ∧ d 20 (n / 2) = f
    · rw [if_pos (by rw [hr.2.2.2.2.1 h2.1, h2.2]), if_pos (inb_nI (by omega) (by omega)), hr.1, F_onStage hR (by omega) (by omega), bnd_some]
      by_cases h3 : q.1 (100 + 2 * d 17 (n / 2) + n % 2) = 0
      · rw [if_pos ((nI_l0 hR.lt).mpr h3)]
        exact HB.no (fun z => z.2.2.1 h3) rfl
      · rw [if_neg (fun e => h3 ((nI_l0 hR.lt).mp e)), if_pos (inb_nI (by omega) (by omega)), hr.2.1]
        by_cases hk3 : k = 3
        · rw [if_pos ((nI_l3 (by omega)).mpr hk3)]
          by_cases h4 : d 18 (n / 2) = 0
          · rw [if_pos ((nI_l0 (by omega)).mpr h4)]
            by_cases h5 : n % 2 = x
            · rw [if_pos (by rw [h5])]
              exact HB.yes ⟨h1, h2, h3, Or.inl ⟨hk3, h4, h5⟩⟩ rfl
            · rw [if_neg (fun e => h5 ((nI_eq (by omega) (by omega)).mp e))]
              exact HB.no (fun z => by rcases z.2.2.2 with g | g | g <;> omega) rfl
          · rw [if_neg (fun e => h4 ((nI_l0 (by omega)).mp e))]
            exact HB.no (fun z => by rcases z.2.2.2 with g | g | g <;> omega) rfl
        · rw [if_neg (fun e => hk3 ((nI_l3 (by omega)).mp e)), if_pos (inb_nI (by omega) (by omega))]
          by_cases h4 : d 18 (n / 2) = 0
          · rw [if_pos (hr.2.2.2.1 h4)]
            exact HB.no (fun z => by rcases z.2.2.2 with g | g | g <;> omega) rfl
          · have hus := ht.2.2.1 h4
            rw [hr.2.2.1 h4, if_neg (nI_m1 (by omega)), F_counts hG hD hus, bnd_some]
            by_cases h5 : d 14 (d 19 (n / 2)) = 1
            · rw [if_pos h5, if_neg (by decide), F_far hG hD hus, bnd_some]
              have hfl : far d (d 19 (n / 2)) (n % 2) < 2 := far_lt (by omega)
              by_cases h6 : far d (d 19 (n / 2)) (n % 2) = x
              · rw [if_pos (by rw [h6])]
                by_cases hk4 : k = 4
                · rw [if_pos (show nI k = 4 from (nI_lk 4 (by omega) (by omega)).mpr hk4)]
                  by_cases h7 : d 18 (n / 2) = 2
                  · rw [if_pos ((nI_l2 (by omega)).mpr h7)]
                    exact HB.yes ⟨h1, h2, h3, Or.inr (Or.inl ⟨hk4, h7, h5, h6⟩)⟩ rfl
                  · rw [if_neg (fun e => h7 ((nI_l2 (by omega)).mp e))]
                    exact HB.no (fun z => by rcases z.2.2.2 with g | g | g <;> omega) rfl
                · rw [if_neg (show ¬ nI k = 4 from fun e => hk4 ((nI_lk 4 (by omega) (by omega)).mp e))]
                  by_cases h7 : d 18 (n / 2) = 3
                  · rw [if_pos ((nI_l3 (by omega)).mpr h7), F_liveStage hR (by omega) (by omega), bnd_some]
                    by_cases h8 : q.1 (20 + 2 * d 19 (n / 2) + n % 2) = 0
                    · rw [if_pos ((nI_l0 hR.lt).mpr h8)]
                      refine HB.no (fun z => ?_) rfl
                      rcases z.2.2.2 with g | g | g
                      · omega
                      · omega
                      · exact g.2.2.2.2 h8
                    · rw [if_neg (fun e => h8 ((nI_l0 hR.lt).mp e))]
                      exact HB.yes ⟨h1, h2, h3, Or.inr (Or.inr ⟨by omega, h7, h5, h6, h8⟩)⟩ rfl
                  · rw [if_neg (fun e => h7 ((nI_l3 (by omega)).mp e))]
                    exact HB.no (fun z => by rcases z.2.2.2 with g | g | g <;> omega) rfl
              · rw [if_neg (fun e => h6 ((nI_eq (by omega) (by omega)).mp e))]
                refine HB.no (fun z => ?_) rfl
                rcases z.2.2.2 with g | g | g
                · omega
                · exact h6 g.2.2.2
                · exact h6 g.2.2.2.1
            · rw [if_neg h5, if_pos rfl]
              refine HB.no (fun z => ?_) rfl
              rcases z.2.2.2 with g | g | g
              · omega
              · exact h5 g.2.2.1
              · exact h5 g.2.2.1
    · have hne : ¬ s 20 (n / 2) = nI f := by
        by_cases h3 : d 18 (n / 2) = 1
        · rw [hr.2.2.2.2.2 h3]
          exact fun e => nI_m1 (n := f) (by omega) e.symm
        · rw [hr.2.2.2.2.1 h3]
          have := ht.2.2.2 h3
          exact fun e => h2 ⟨h3, (nI_eq (by omega) (by omega)).mp e⟩
      rw [if_neg hne]
      exact HB.no (fun z => h2 z.2.1) rfl
  · rw [if_pos ((nI_leI (by omega) (by omega)).mpr (by omega))]
    exact HB.no (fun z => h1 z.1) rfl
theorem F_byOther (hG : DG d) (hD : DC d s) (hR : CRep 23 s q) {n f x : Nat} (hn : n < 128) (hf : f < d 4 0) (hx : x < 2) :
    HB (n = 2 * f + (1 - x) ∧ d 3 (d 5 f) = 0 ∧ q.1 (100 + 2 * f + (1 - x)) ≠ 0 ∧ q.1 (2 * d 5 f + x) ≠ 0) s (f_Reas_isByOtherSide (nI n) (nI f) (nI x) s) := by
  have hFn := hG.1.2.1
  have hPn := hG.1.1
  have h5 := (hG.1.2.2.2.2.1 f hf).1
  have h3b := hG.2.1.1 _ h5
  unfold f_Reas_isByOtherSide
  have e1 : 2 * nI f + 1 - nI x = nI (2 * f + 1 - x) := by
    rw [show (2 : Int32) = nI 2 from rfl, show (1 : Int32) = nI 1 from rfl, pk_mul, nI_add, pk_sub (by omega)]
  rw [if_pos (inb_nI (by omega) (by omega)), ix_nI (by omega), e1, (hD.2.2.1 f hf).1]
  by_cases h1 : n = 2 * f + (1 - x)
  · rw [if_pos (by rw [h1]; congr 1; omega), if_pos (inb_nI (by omega) (by omega)), ix_nI (by omega), hD.2.1 _ h5]
    by_cases h2 : d 3 (d 5 f) = 0
    · rw [if_pos ((nI_l0 (by omega)).mpr h2), n1s hx, F_onStage hR (by omega) (by omega), bnd_some]
      by_cases h3 : q.1 (100 + 2 * f + (1 - x)) = 0
      · rw [if_pos ((nI_l0 hR.lt).mpr h3)]
        exact HB.no (fun z => z.2.2.1 h3) rfl
      · rw [if_neg (fun e => h3 ((nI_l0 hR.lt).mp e)), F_thereStage hR (by omega) hx, bnd_some]
        by_cases h4 : q.1 (2 * d 5 f + x) = 0
        · rw [if_pos ((nI_l0 hR.lt).mpr h4)]
          exact HB.no (fun z => z.2.2.2 h4) rfl
        · rw [if_neg (fun e => h4 ((nI_l0 hR.lt).mp e))]
          exact HB.yes ⟨h1, h2, h3, h4⟩ rfl
    · rw [if_neg (fun e => h2 ((nI_l0 (by omega)).mp e))]
      exact HB.no (fun z => h2 z.2.1) rfl
  · rw [if_neg (fun e => h1 (by have := (nI_eq (by omega) (by omega)).mp e; omega))]
    exact HB.no (fun z => h1 z.1) rfl
/-- which codes hold -/
def RsP (d : Dt) (P : Nat → Prop) (f x code : Nat) : Prop := RsK d P f x (code / 128) (code % 128)
theorem F_holds (hG : DG d) (hD : DC d s) (hR : CRep 23 s q) {code f x : Nat} (hn : code < 896) (hf : f < d 4 0) (hx : x < 2) : HB (RsP d (fun y => q.1 y ≠ 0) f x code) s (f_Reas_holds (nI code) (nI f) (nI x) s) := by
  have e1 : nI code / 128 = nI (code / 128) := pk_div (d := 128) (by omega) (by omega) (by omega)
  have e2 : nI code - nI (code / 128) * 128 = nI (code % 128) := by
    rw [← e1]
    exact pk_rem (d := 128) (by omega) (by omega) (by omega)
  unfold f_Reas_holds RsP
  rw [e1, e2]
  have hkl : code / 128 < 7 := by omega
  have hnl : code % 128 < 128 := by omega
  generalize code / 128 = k at hkl
  generalize code % 128 = n at hnl
  by_cases k0 : k = 0
  · subst k0
    rw [if_pos (show nI 0 = (0 : Int32) from rfl)]
    exact (F_byRoot hG hD hR hnl hf hx).ret.congr (by unfold RsK; simp)
  rw [if_neg (fun e => k0 ((nI_l0 (by omega)).mp e))]
  by_cases k1 : k = 1
  · subst k1
    rw [if_pos (show nI 1 = (1 : Int32) from rfl)]
    exact (F_byUser hG hD hR (Or.inl rfl) hnl hf hx).ret.congr (by unfold RsK; simp)
  rw [if_neg (fun e => k1 ((nI_l1 (by omega)).mp e))]
  by_cases k2 : k = 2
  · subst k2
    rw [if_pos (show nI 2 = (2 : Int32) from rfl)]
    exact (F_byUser hG hD hR (Or.inr rfl) hnl hf hx).ret.congr (by unfold RsK; simp)
  rw [if_neg (fun e => k2 ((nI_l2 (by omega)).mp e))]
  by_cases k3 : k = 3
  · subst k3
    rw [if_pos (show nI 3 = (3 : Int32) from rfl)]
    refine (F_byTurn hG hD hR (Or.inl rfl) hnl hf hx).ret.congr ?_
    unfold RsK
    simp
    intro _
    constructor
    · rintro ⟨⟨a2, a3⟩, a4, a5, a6⟩
      exact ⟨a5, a3, a4, a6⟩
    · rintro ⟨a2, a3, a4, a5⟩
      exact ⟨⟨by omega, a3⟩, a4, a2, a5⟩
  rw [if_neg (fun e => k3 ((nI_l3 (by omega)).mp e))]
  by_cases k4 : k = 4
  · subst k4
    rw [if_pos (show nI 4 = (4 : Int32) from rfl)]
    refine (F_byTurn hG hD hR (Or.inr (Or.inl rfl)) hnl hf hx).ret.congr ?_
    unfold RsK
    simp
    intro _
    constructor
    · rintro ⟨⟨a2, a3⟩, a4, a5, a6⟩
      exact ⟨a5, a3, a4, a6⟩
    · rintro ⟨a2, a3, a4, a5⟩
      exact ⟨⟨by omega, a3⟩, a4, a2, a5⟩
  rw [if_neg (show ¬ nI k = 4 from fun e => k4 ((nI_lk 4 (by omega) (by omega)).mp e))]
  by_cases k5 : k = 5
  · subst k5
    rw [if_pos (show nI 5 = (5 : Int32) from rfl)]
    refine (F_byTurn hG hD hR (Or.inr (Or.inr rfl)) hnl hf hx).ret.congr ?_
    unfold RsK
    simp
    intro _
    constructor
    · rintro ⟨⟨a2, a3⟩, a4, a5, a6⟩
      exact ⟨a5, a3, a4, a6⟩
    · rintro ⟨a2, a3, a4, a5⟩
      exact ⟨⟨by omega, a3⟩, a4, a2, a5⟩
  rw [if_neg (show ¬ nI k = 5 from fun e => k5 ((nI_lk 5 (by omega) (by omega)).mp e))]
  have k6 : k = 6 := by omega
  subst k6
  rw [if_pos (show nI 6 = (6 : Int32) from rfl)]
  exact (F_byOther hG hD hR hnl hf hx).ret.congr (by unfold RsK; simp)
end Reas
