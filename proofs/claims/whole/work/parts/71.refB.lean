def Tg (a : Int32) (p : Prop) : Prop := (a = 1 ∧ p) ∨ (a = 0 ∧ ¬ p)
theorem Tg.congr {a : Int32} {p q : Prop} (h : Tg a p) (e : p ↔ q) : Tg a q := by
  rcases h with ⟨h1, h2⟩ | ⟨h1, h2⟩
  · exact Or.inl ⟨h1, e.mp h2⟩
  · exact Or.inr ⟨h1, fun z => h2 (e.mpr z)⟩
theorem Tg.hb {a : Int32} {p : Prop} (h : Tg a p) (s : Sg) : HB p s (if isb a = true then some (a, s) else none) := by
  rcases h with ⟨rfl, h2⟩ | ⟨rfl, h2⟩
  · exact HB.yes h2 rfl
  · exact HB.no h2 rfl
section Rb
variable {e : Dt} {s : Sg} {st : Nat → Nat}
theorem MRep.live (h : MRep st s) {u x : Nat} (hu : u < 40) (hx : x < 2) : s 53 (2 * u + x) = nI (st (20 + 2 * u + x)) := by
  rw [h.2.1 _ (by omega), ← Nat.add_assoc]
theorem MRep.on (h : MRep st s) {f x : Nat} (hf : f < 60) (hx : x < 2) : s 54 (2 * f + x) = nI (st (100 + 2 * f + x)) := by
  rw [h.2.2.1 _ (by omega), ← Nat.add_assoc]
theorem M_comesThere (hG : DG e) (h : ER e s) (hM : MRep st s) {p x r : Nat} (hp : p < e 0 0) (hx : x < 2) (hr : r ≤ 1000) (hL : ∀ u y, u < e 8 0 → y < 2 → st (20 + 2 * u + y) ≠ 0 → e 14 u = 1) :
    HB (Dv e (fun y => 1 ≤ st y ∧ st y < r) (2 * p + x)) s (f_Mod_comesThere (nI p) (nI x) (nI r) s) := by
  have hPn := hG.1.1
  have hUn := hG.1.2.2.1
  let Bc : Nat → Prop := fun k => (e 1 p = 1 ∧ x = 0) ∨ ∃ u, u < k ∧ ∃ y, y < 2 ∧ e 10 u = p ∧ far e u y = x ∧ 1 ≤ st (20 + 2 * u + y) ∧ st (20 + 2 * u + y) < r
  have hend : Bc (e 8 0) ↔ Dv e (fun y => 1 ≤ st y ∧ st y < r) (2 * p + x) := by
    constructor
    · rintro (⟨h1, h2⟩ | ⟨u, hu, y, hy, h1, h2, h3⟩)
      · exact Or.inl ⟨p, hp, h1, by omega⟩
      · exact Or.inr (Or.inr (Or.inl ⟨u, y, hu, hy, h3, by rw [h1, h2]⟩))
    · intro hd
      obtain ⟨k1, k2, k3, k4, k5, k6, k7⟩ := id hG.1
      rcases hd with ⟨p', h1, h2, h3⟩ | ⟨u, y, h1, h2, h3, h4, h5, h6⟩ | ⟨u, y, h1, h2, h3, h4⟩ | ⟨f, h1, h2, h3, h4, h5⟩ | ⟨u, y, f, h1, h2, h3, h4, h5, h6, h7⟩ | ⟨w, y, h1, h2, h3, h4, h5⟩ | ⟨w, y, h1, h2, h3, h4, h5, h6⟩ | ⟨w, y, h1, h2, h3, h4, h5, h6, h7⟩ | ⟨f, y, h1, h2, h3, h4, h5, h6⟩ | ⟨w, y, h1, h2, h3, h4, h5, h6⟩
      · obtain rfl : p' = p := by omega
        exact Or.inl ⟨h2, by omega⟩
      · omega
      · have hfl := far_lt (d := e) (u := u) h2
        exact Or.inr ⟨u, h1, y, h2, by omega, by omega, h3⟩
      all_goals omega
  have main : ∀ a0 : Int32, Tg a0 (Bc 0) → HB (Dv e (fun y => 1 ≤ st y ∧ st y < r) (2 * p + x)) s (f_Mod_comesThere_23 (nI p) (nI x) (nI r) a0 0 s) := by
    intro a0 ha0
    unfold f_Mod_comesThere_23
    refine itr2_run (N := e 8 0) (I := fun k a z s1 => z = nI k ∧ s1 = s ∧ Tg a (Bc k)) (E := HB (Dv e (fun y => 1 ≤ st y ∧ st y < r) (2 * p + x)) s) ?_ ?_ (e 8 0) 4096 0 a0 0 s (by omega) (by omega) ⟨nI_0.symm, rfl, ha0⟩
    · rintro rec23 u a z s1 hu ⟨rfl, rfl, ha⟩
      refine Or.inl ?_
      rw [h.1.2.2.1, if_neg (fun z => by have := (nI_leI (by omega) (by omega)).mp z; omega)]
      unfold f_Mod_comesThere_35
      refine itr2_run (N := 2) (I := fun y a z s2 => z = nI y ∧ s2 = s1 ∧ Tg a (Bc u ∨ ∃ y', y' < y ∧ e 10 u = p ∧ far e u y' = x ∧ 1 ≤ st (20 + 2 * u + y') ∧ st (20 + 2 * u + y') < r)) (E := fun o => ∃ (y1 y2 : Int32) (s' : Sg), (y2 = nI (u + 1) ∧ s' = s1 ∧ Tg y1 (Bc (u + 1))) ∧ o = rec23 y1 y2 s') ?_ ?_ 2 4096 0 a 0 s1 (by omega) (by omega) ⟨nI_0.symm, rfl, ha.congr ⟨Or.inl, fun z => z.elim id (fun ⟨y', hy', _⟩ => absurd hy' (Nat.not_lt_zero _))⟩⟩
      · rintro rec35 y a z s2 hy ⟨rfl, rfl, ha⟩
        refine Or.inl ?_
        have hstl := hM.2.2.2 (20 + 2 * u + y)
        have hfl := far_lt (d := e) (u := u) hy
        have h10 := (hG.1.2.2.2.2.2.1 u hu).2
        rw [if_neg (fun z => by have := (nI_leI (a := 2) (by omega) (by omega)).mp z; omega), ← nI_succ]
        have step : ∀ a' : Int32, Tg a' (e 10 u = p ∧ far e u y = x ∧ 1 ≤ st (20 + 2 * u + y) ∧ st (20 + 2 * u + y) < r) → a = 0 → ∃ (y1 y2 : Int32) (s' : Sg), (y2 = nI (y + 1) ∧ s' = s2 ∧ Tg y1 (Bc u ∨ ∃ y', y' < y + 1 ∧ e 10 u = p ∧ far e u y' = x ∧ 1 ≤ st (20 + 2 * u + y') ∧ st (20 + 2 * u + y') < r)) ∧ rec35 a' (nI (y + 1)) s2 = rec35 y1 y2 s' := by
          intro a' ht ha00
          refine ⟨_, _, _, ⟨rfl, rfl, ?_⟩, rfl⟩
          rcases ha with ⟨g1, g2⟩ | ⟨g1, g2⟩
          · rw [ha00] at g1; exact absurd g1 (by decide)
          · rcases ht with ⟨t1, t2⟩ | ⟨t1, t2⟩
            · exact Or.inl ⟨t1, Or.inr ⟨y, by omega, t2⟩⟩
            · refine Or.inr ⟨t1, fun z => ?_⟩
              rcases z with z | ⟨y', hy', z⟩
              · exact g2 (Or.inl z)
              · by_cases ey : y' = y
                · subst ey; exact t2 z
                · exact g2 (Or.inr ⟨y', by omega, z⟩)
        by_cases ha0 : a = 0
        · rw [if_pos ha0]
          have hfor := M_isFor hG h hu
          by_cases h14 : e 14 u = 1
          · rw [hfor.1 h14, bnd_some, if_neg (by decide), if_pos (inb_nI (by omega) (by omega)), ix_nI (by omega), (h.2.2.2.2.1 u hu).2.1]
            by_cases hto : e 10 u = p
            · rw [if_pos (by rw [hto]), M_far hG h hu, bnd_some]
              by_cases hfa : far e u y = x
              · rw [if_pos (by rw [hfa]), n2p, if_pos (inb_nI (by omega) (by omega)), ix_nI (by omega), hM.live (by omega) hy]
                have hc := came_is (a := st (20 + 2 * u + y)) (r := r) (by omega) (by omega) s2
                by_cases hcm : 1 ≤ st (20 + 2 * u + y) ∧ st (20 + 2 * u + y) < r
                · rw [hc.1 hcm, bnd_some, if_neg (by decide)]
                  exact step 1 (Or.inl ⟨rfl, hto, hfa, hcm⟩) ha0
                · rw [hc.2 hcm, bnd_some, if_pos rfl]
                  exact step 0 (Or.inr ⟨rfl, fun z => hcm z.2.2⟩) ha0
              · rw [if_neg (fun z => hfa (nI_inj (by omega) (by omega) z))]
                exact step 0 (Or.inr ⟨rfl, fun z => hfa z.2.1⟩) ha0
            · rw [if_neg (fun z => hto (nI_inj (by omega) (by omega) z))]
              exact step 0 (Or.inr ⟨rfl, fun z => hto z.1⟩) ha0
          · rw [hfor.2 h14, bnd_some, if_pos rfl]
            exact step 0 (Or.inr ⟨rfl, fun z => h14 (hL u y hu hy (by omega))⟩) ha0
        · rw [if_neg ha0]
          refine ⟨_, _, _, ⟨rfl, rfl, ?_⟩, rfl⟩
          rcases ha with ⟨g1, g2⟩ | ⟨g1, g2⟩
          · refine Or.inl ⟨rfl, ?_⟩
            rcases g2 with g2 | ⟨y', hy', g2⟩
            · exact Or.inl g2
            · exact Or.inr ⟨y', by omega, g2⟩
          · exact absurd g1 ha0
      · rintro rec35 a z s2 ⟨rfl, rfl, ha⟩
        rw [if_pos (show (2 : Int32) ≤ nI 2 from (nI_leI (a := 2) (by omega) (by omega)).mpr (Nat.le_refl _)), ← nI_succ]
        refine ⟨_, _, _, ⟨rfl, rfl, ha.congr ⟨?_, ?_⟩⟩, rfl⟩
        · rintro ((z | ⟨u', hu', z⟩) | ⟨y, hy, z⟩)
          · exact Or.inl z
          · exact Or.inr ⟨u', by omega, z⟩
          · exact Or.inr ⟨u, by omega, y, hy, z⟩
        · rintro (z | ⟨u', hu', z⟩)
          · exact Or.inl (Or.inl z)
          · by_cases eu : u' = u
            · subst eu
              obtain ⟨y, hy, z⟩ := z
              exact Or.inr ⟨y, hy, z⟩
            · exact Or.inl (Or.inr ⟨u', by omega, z⟩)
    · rintro rec23 a z s1 ⟨rfl, rfl, ha⟩
      rw [h.1.2.2.1, if_pos ((nI_leI (by omega) (by omega)).mpr (Nat.le_refl _))]
      exact (ha.hb s1).congr hend
  have hno0 : ¬ (e 1 p = 1 ∧ x = 0) → ¬ Bc 0 := by
    rintro hn (z | ⟨u, hu, z⟩)
    · exact hn z
    · exact absurd hu (Nat.not_lt_zero _)
  unfold f_Mod_comesThere
  rw [if_pos (inb_nI (by omega) (by omega)), ix_nI (by omega), (h.2.1 p (by omega)).1]
  by_cases h1 : e 1 p = 1
  · rw [if_pos h1, if_neg (by decide)]
    by_cases hx0 : x = 0
    · rw [if_pos ((nI_l0 (by omega)).mpr hx0)]
      exact main 1 (Or.inl ⟨rfl, Or.inl ⟨h1, hx0⟩⟩)
    · rw [if_neg (fun z => hx0 ((nI_l0 (by omega)).mp z))]
      exact main 0 (Or.inr ⟨rfl, hno0 (fun z => hx0 z.2)⟩)
  · rw [if_neg h1, if_pos rfl]
    exact main 0 (Or.inr ⟨rfl, hno0 (fun z => h1 z.1)⟩)
theorem M_comesLive (hG : DG e) (h : ER e s) (hM : MRep st s) {u x r : Nat} (hu : u < e 8 0) (hx : x < 2) (hr : r ≤ 1000) :
    HB (Dv e (fun y => 1 ≤ st y ∧ st y < r) (20 + 2 * u + x)) s (f_Mod_comesLive (nI u) (nI x) (nI r) s) := by
  have hPn := hG.1.1
  have hFn := hG.1.2.1
  have hUn := hG.1.2.2.1
  have hTn := hG.1.2.2.2.1
  obtain ⟨k1, k2, k3, k4, k5, k6, k7⟩ := id hG.1
  let Bc : Nat → Prop := fun k => (e 13 u = 0 ∧ 1 ≤ st (2 * e 9 u + x) ∧ st (2 * e 9 u + x) < r) ∨ ∃ w, w < k ∧ (e 18 w = 1 ∨ e 18 w = 2) ∧ e 19 w = u ∧ 1 ≤ st (100 + 2 * e 17 w + x) ∧ st (100 + 2 * e 17 w + x) < r
  have hdv : Dv e (fun y => 1 ≤ st y ∧ st y < r) (20 + 2 * u + x) ↔ e 14 u = 1 ∧ Bc (e 16 0) := by
    constructor
    · intro hd
      rcases hd with ⟨p', h1, h2, h3⟩ | ⟨u', y, h1, h2, h3, h4, h5, h6⟩ | ⟨u', y, h1, h2, h3, h4⟩ | ⟨f, h1, h2, h3, h4, h5⟩ | ⟨u', y, f, h1, h2, h3, h4, h5, h6, h7⟩ | ⟨w, y, h1, h2, h3, h4, h5⟩ | ⟨w, y, h1, h2, h3, h4, h5, h6⟩ | ⟨w, y, h1, h2, h3, h4, h5, h6, h7⟩ | ⟨f, y, h1, h2, h3, h4, h5, h6⟩ | ⟨w, y, h1, h2, h3, h4, h5, h6⟩
      · omega
      · obtain rfl : u' = u := by omega
        obtain rfl : y = x := by omega
        exact ⟨h4, Or.inl ⟨h3, h5⟩⟩
      · have := (k6 u' h1).2
        have := far_lt (d := e) (u := u') h2
        omega
      · omega
      · omega
      · omega
      · omega
      · omega
      · omega
      · obtain rfl : e 19 w = u := by omega
        obtain rfl : y = x := by omega
        exact ⟨h4, Or.inr ⟨w, h1, h3, rfl, h5⟩⟩
    · rintro ⟨h14, ⟨h1, h2⟩ | ⟨w, hw, h1, h2, h3⟩⟩
      · exact Or.inr (Or.inl ⟨u, x, hu, hx, h1, h14, h2, rfl⟩)
      · refine Or.inr (Or.inr (Or.inr (Or.inr (Or.inr (Or.inr (Or.inr (Or.inr (Or.inr ⟨w, x, hw, hx, h1, ?_, h3, ?_⟩))))))))
        · rw [h2]; exact h14
        · rw [h2]
  have main : ∀ a0 : Int32, Tg a0 (Bc 0) → HB (Bc (e 16 0)) s (f_Mod_comesLive_51 (nI u) (nI x) (nI r) a0 0 s) := by
    intro a0 ha0
    unfold f_Mod_comesLive_51
    refine itr2_run (N := e 16 0) (I := fun k a z s1 => z = nI k ∧ s1 = s ∧ Tg a (Bc k)) (E := HB (Bc (e 16 0)) s) ?_ ?_ (e 16 0) 4096 0 a0 0 s (by omega) (by omega) ⟨nI_0.symm, rfl, ha0⟩
    · rintro rec51 w a z s1 hw ⟨rfl, rfl, ha⟩
      refine Or.inl ?_
      have hk := k7 w hw
      have hd := h.2.2.2.2.2.1 w hw
      rw [h.1.2.2.2.2.1, if_neg (fun z => by have := (nI_leI (by omega) (by omega)).mp z; omega), ← nI_succ]
      have step : ∀ a' : Int32, Tg a' ((e 18 w = 1 ∨ e 18 w = 2) ∧ e 19 w = u ∧ 1 ≤ st (100 + 2 * e 17 w + x) ∧ st (100 + 2 * e 17 w + x) < r) → a = 0 → ∃ (y1 y2 : Int32) (s' : Sg), (y2 = nI (w + 1) ∧ s' = s1 ∧ Tg y1 (Bc (w + 1))) ∧ rec51 a' (nI (w + 1)) s1 = rec51 y1 y2 s' := by
        intro a' ht ha00
        refine ⟨_, _, _, ⟨rfl, rfl, ?_⟩, rfl⟩
        rcases ha with ⟨g1, g2⟩ | ⟨g1, g2⟩
        · rw [ha00] at g1; exact absurd g1 (by decide)
        · rcases ht with ⟨t1, t2⟩ | ⟨t1, t2⟩
          · exact Or.inl ⟨t1, Or.inr ⟨w, by omega, t2⟩⟩
          · refine Or.inr ⟨t1, fun z => ?_⟩
            rcases z with z | ⟨w', hw', z⟩
            · exact g2 (Or.inl z)
            · by_cases ey : w' = w
              · subst ey; exact t2 z
              · exact g2 (Or.inr ⟨w', by omega, z⟩)
      by_cases ha0 : a = 0
      · rw [if_pos ha0, if_pos (inb_nI (by omega) (by omega)), ix_nI (by omega), hd.2.1]
        have inner : (e 18 w = 1 ∨ e 18 w = 2) → ∃ (y1 y2 : Int32) (s' : Sg), (y2 = nI (w + 1) ∧ s' = s1 ∧ Tg y1 (Bc (w + 1))) ∧ f_Mod_comesLive_87 rec51 (nI u) (nI x) (nI r) (nI w) s1 = rec51 y1 y2 s' := by
          intro hkk
          unfold f_Mod_comesLive_87
          have hus := hk.2.2.1 (by omega)
          rw [if_pos (inb_nI (by omega) (by omega)), ix_nI (by omega), hd.2.2.1 (by omega), ← nI_succ]
          by_cases hu' : e 19 w = u
          · have hstl := hM.2.2.2 (100 + 2 * e 17 w + x)
            rw [if_pos (by rw [hu']), if_pos (inb_nI (by omega) (by omega)), hd.1, n2p, if_pos (inb_nI (by omega) (by omega)), ix_nI (by omega), hM.on (by omega) hx]
            have hc := came_is (a := st (100 + 2 * e 17 w + x)) (r := r) (by omega) (by omega) s1
            by_cases hcm : 1 ≤ st (100 + 2 * e 17 w + x) ∧ st (100 + 2 * e 17 w + x) < r
            · rw [hc.1 hcm, bnd_some, if_neg (by decide)]
              exact step 1 (Or.inl ⟨rfl, hkk, hu', hcm⟩) ha0
            · rw [hc.2 hcm, bnd_some, if_pos rfl]
              exact step 0 (Or.inr ⟨rfl, fun z => hcm z.2.2⟩) ha0
          · rw [if_neg (fun z => hu' (nI_inj (by omega) (by omega) z))]
            exact step 0 (Or.inr ⟨rfl, fun z => hu' z.2.1⟩) ha0
        by_cases h1 : e 18 w = 1
        · rw [if_pos ((nI_l1 (by omega)).mpr h1)]
          exact inner (Or.inl h1)
        · rw [if_neg (fun z => h1 ((nI_l1 (by omega)).mp z)), if_pos (inb_nI (by omega) (by omega))]
          by_cases h2 : e 18 w = 2
          · rw [if_pos ((nI_l2 (by omega)).mpr h2)]
            exact inner (Or.inr h2)
          · rw [if_neg (fun z => h2 ((nI_l2 (by omega)).mp z))]
            exact step 0 (Or.inr ⟨rfl, fun z => by rcases z.1 with z | z <;> omega⟩) ha0
      · rw [if_neg ha0]
        refine ⟨_, _, _, ⟨rfl, rfl, ?_⟩, rfl⟩
        rcases ha with ⟨g1, g2⟩ | ⟨g1, g2⟩
        · refine Or.inl ⟨rfl, ?_⟩
          rcases g2 with g2 | ⟨y', hy', g2⟩
          · exact Or.inl g2
          · exact Or.inr ⟨y', by omega, g2⟩
        · exact absurd g1 ha0
    · rintro rec51 a z s1 ⟨rfl, rfl, ha⟩
      rw [h.1.2.2.2.2.1, if_pos ((nI_leI (by omega) (by omega)).mpr (Nat.le_refl _))]
      exact ha.hb s1
  have hno0 : ¬ (e 13 u = 0 ∧ 1 ≤ st (2 * e 9 u + x) ∧ st (2 * e 9 u + x) < r) → ¬ Bc 0 := by
    rintro hn (z | ⟨w, hw, z⟩)
    · exact hn z
    · exact absurd hw (Nat.not_lt_zero _)
  unfold f_Mod_comesLive
  have hfor := M_isFor hG h hu
  by_cases h14 : e 14 u = 1
  · have hsu := h.2.2.2.2.1 u hu
    have h9 := (k6 u hu).1
    have h13 := (hG.2.1.2.2 u hu).2.2
    have fin : ∀ {o : Ro}, HB (Bc (e 16 0)) s o → HB (Dv e (fun y => 1 ≤ st y ∧ st y < r) (20 + 2 * u + x)) s o := fun z => z.congr ⟨fun y => hdv.mpr ⟨h14, y⟩, fun y => (hdv.mp y).2⟩
    rw [hfor.1 h14, bnd_some, if_neg (by decide), if_pos (inb_nI (by omega) (by omega)), ix_nI (by omega), hsu.2.2.2.2.1]
    by_cases ho : e 13 u = 0
    · have hstl := hM.2.2.2 (2 * e 9 u + x)
      rw [if_pos ((nI_l0 (by omega)).mpr ho), if_pos (inb_nI (by omega) (by omega)), hsu.1, n2p, if_pos (inb_nI (by omega) (by omega)), ix_nI (by omega), hM.1 _ (by omega)]
      have hc := came_is (a := st (2 * e 9 u + x)) (r := r) (by omega) (by omega) s
      by_cases hcm : 1 ≤ st (2 * e 9 u + x) ∧ st (2 * e 9 u + x) < r
      · rw [hc.1 hcm, bnd_some, if_neg (by decide)]
        exact fin (main 1 (Or.inl ⟨rfl, Or.inl ⟨ho, hcm⟩⟩))
      · rw [hc.2 hcm, bnd_some, if_pos rfl]
        exact fin (main 0 (Or.inr ⟨rfl, hno0 (fun z => hcm z.2)⟩))
    · rw [if_neg (fun z => ho ((nI_l0 (by omega)).mp z))]
      exact fin (main 0 (Or.inr ⟨rfl, hno0 (fun z => ho z.1)⟩))
  · rw [hfor.2 h14, bnd_some, if_pos rfl]
    exact HB.no (fun z => h14 (hdv.mp z).1) rfl
end Rb
