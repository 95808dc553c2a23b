theorem sel_gap {p : Nat → Bool} {lo : Nat} : ∀ hi, lo ≤ hi → (∀ c, lo ≤ c → c < hi → ¬ p c = true) → sel p hi = sel p lo
  | 0, h, _ => by
    obtain rfl : lo = 0 := by omega
    rfl
  | n + 1, h, hn => by
    by_cases e : lo = n + 1
    · rw [e]
    · rw [sel_no (hn n (by omega) (by omega))]
      exact sel_gap n (by omega) (fun c h1 h2 => hn c h1 (by omega))
/-- clashes, by 120 times the first, 2 times the second, and the side -/
def ClP (d : Dt) (c : Nat) : Prop := c / 120 < c / 2 % 60 ∧ c / 2 % 60 < d 4 0 ∧ d 21 (c / 120) ≠ 0 ∧ d 21 (c / 120) = d 21 (c / 2 % 60) ∧ d 5 (c / 120) = d 5 (c / 2 % 60) ∧ stg d (100 + 2 * (c / 120) + c % 2) ≠ 0 ∧ stg d (100 + 2 * (c / 2 % 60) + c % 2) ≠ 0
noncomputable def Cl (d : Dt) : List Nat := sel (pb (ClP d)) 7200
def SpClash (d : Dt) (l1 l2 v : Int32) : Prop :=
  (∃ j c, l1 = nI j ∧ j < 2147483648 ∧ (Cl d)[j]? = some c ∧ ((l2 = 0 ∧ v = nI (c / 120)) ∨ (l2 = 1 ∧ v = nI (c / 2 % 60)) ∨ (l2 = 2 ∧ v = nI (c % 2)) ∨ (l2 ≠ 0 ∧ l2 ≠ 1 ∧ l2 ≠ 2 ∧ v = -1))) ∨
  ((∀ j c, l1 = nI j → j < 2147483648 → (Cl d)[j]? = some c → False) ∧ v = -1)
theorem Cl_at {a b x : Nat} (ha : a < 60) (hb : b < 60) (hx : x < 2) : (120 * a + 2 * b + x) / 120 = a ∧ (120 * a + 2 * b + x) / 2 % 60 = b ∧ (120 * a + 2 * b + x) % 2 = x := by omega
section Cq
variable {t d : Dt} {cur : Bool} {lv : List Nat} {s : Sg}
theorem F_exclude (hI : SI t d cur) (h : CR t d cur lv s) {a b : Nat} (ha : a < t 4 0) (hb : b < t 4 0) : HB (t 21 a ≠ 0 ∧ t 21 a = t 21 b ∧ t 5 a = t 5 b) s (f_Feats_exclude (nI a) (nI b) s) := by
  have hFn := hI.1.1.2.1
  have hPn := hI.1.1.1
  have g1 := (hI.1.2.1.2.1 a ha).2
  have g2 := (hI.1.2.1.2.1 b hb).2
  have p1 := (hI.1.1.2.2.2.2.1 a ha).1
  have p2 := (hI.1.1.2.2.2.2.1 b hb).1
  have c1 := h.1.2.2.2.1 a ha
  have c2 := h.1.2.2.2.1 b hb
  unfold f_Feats_exclude
  rw [if_pos (inb_nI (by omega) (by omega)), ix_nI (by omega), ix_nI (by omega), c1.2.2.1, c2.2.2.1, c1.1, c2.1]
  by_cases h1 : t 21 a = 0
  · rw [if_pos ((nI_l0 (by omega)).mpr h1)]
    exact HB.no (fun z => z.1 h1) rfl
  · rw [if_neg (fun e => h1 ((nI_l0 (by omega)).mp e)), if_pos (inb_nI (by omega) (by omega)), if_pos (inb_nI (by omega) (by omega))]
    by_cases h2 : t 21 a = t 21 b
    · rw [if_pos (by rw [h2]), if_pos (inb_nI (by omega) (by omega)), if_pos (inb_nI (by omega) (by omega))]
      by_cases h3 : t 5 a = t 5 b
      · rw [if_pos (by rw [h3])]
        exact HB.yes ⟨h1, h2, h3⟩ rfl
      · rw [if_neg (fun e => h3 (nI_inj (by omega) (by omega) e))]
        exact HB.no (fun z => h3 z.2.2) rfl
    · rw [if_neg (fun e => h2 (nI_inj (by omega) (by omega) e))]
      exact HB.no (fun z => h2 z.2.1) rfl
theorem C_clash (hI : SI t d cur) (h : CR t d cur lv s) (l1 l2 : Int32) : ∃ v, f_FU_clash l1 l2 s = some (v, s) ∧ SpClash d l1 l2 v := by
  obtain ⟨q, hq, hR⟩ := h.crep hI
  have hFn := hI.1.1.2.1
  have hdF := hI.2.2.1.1.2.1
  have hcnt := h.1.1.2.1
  unfold f_FU_clash
  by_cases hneg : l1 < 0
  · rw [if_pos hneg]
    refine ⟨_, rfl, Or.inr ⟨fun j c e hj _ => ?_, rfl⟩⟩
    rw [e] at hneg
    exact nI_pos hj hneg
  · rw [if_neg hneg]
    obtain ⟨j, hj, rfl⟩ := nI_of_nn hneg
    rcases hasc l2 3 with ⟨w, hw, rfl⟩ | hno
    · have e2 : f_FU_within (nI w) 3 s = some (1, s) := within_yes (n := 3) hw (by omega) s
      rw [e2, bnd_some, if_neg (by decide)]
      let E : Ro → Prop := fun o => ∃ v, o = some (v, s) ∧ SpClash d (nI j) (nI w) v
      let J : Nat → Int32 → Sg → Prop := fun c y s1 => (sel (pb (ClP d)) c).length ≤ j ∧ y = nI (j - (sel (pb (ClP d)) c).length) ∧ s1 = s
      have hgapA : ∀ a, a < t 4 0 → sel (pb (ClP d)) (120 * a + 2 * (a + 1)) = sel (pb (ClP d)) (120 * a) := fun a ha => sel_gap _ (by omega) (fun c h1 h2 z => by
        have := (pb_iff.mp z).1
        omega)
      have hgapB : ∀ a, a < t 4 0 → sel (pb (ClP d)) (120 * (a + 1)) = sel (pb (ClP d)) (120 * a + 2 * t 4 0) := fun a ha => sel_gap _ (by omega) (fun c h1 h2 z => by
        have := (pb_iff.mp z).2.1
        omega)
      have hgapC : sel (pb (ClP d)) 7200 = sel (pb (ClP d)) (120 * t 4 0) := sel_gap _ (by omega) (fun c h1 h2 z => by
        have h3 := (pb_iff.mp z).1
        have h4 := (pb_iff.mp z).2.1
        omega)
      show E _
      unfold f_FU_clash_19
      refine itr2_run (N := t 4 0) (I := fun a y z s1 => z = nI a ∧ J (120 * a) y s1) (E := E) ?_ ?_ (t 4 0) 4096 0 (nI j) 0 s (by omega) (by omega) ⟨nI_0.symm, Nat.zero_le _, rfl, rfl⟩
      · rintro rec19 a y z s1 ha ⟨rfl, hl, rfl, rfl⟩
        rw [hcnt, if_neg (fun e => by have := (nI_leI (by omega) (by omega)).mp e; omega), ← nI_succ]
        -- the second feature
        have inner : (∃ (y1 y2 : Int32) (s' : Sg), (y2 = nI (a + 1) ∧ J (120 * (a + 1)) y1 s') ∧ f_FU_clash_37 rec19 (nI w) (nI a) (nI (j - (sel (pb (ClP d)) (120 * a)).length)) (nI (a + 1)) s1 = rec19 y1 y2 s') ∨ E (f_FU_clash_37 rec19 (nI w) (nI a) (nI (j - (sel (pb (ClP d)) (120 * a)).length)) (nI (a + 1)) s1) := by
          unfold f_FU_clash_37
          refine itr2_run (N := t 4 0) (I := fun b y z s1 => z = nI b ∧ a < b ∧ J (120 * a + 2 * b) y s1) (E := fun o => (∃ (y1 y2 : Int32) (s' : Sg), (y2 = nI (a + 1) ∧ J (120 * (a + 1)) y1 s') ∧ o = rec19 y1 y2 s') ∨ E o) ?_ ?_ (t 4 0 - (a + 1)) 4096 (a + 1) _ _ s1 (by omega) (by omega) ⟨rfl, by omega, by rw [hgapA a ha]; exact hl, by rw [hgapA a ha], rfl⟩
          · rintro rec37 b y z s1 hb ⟨rfl, hab, hl, rfl, rfl⟩
            rw [hcnt, if_neg (fun e => by have := (nI_leI (by omega) (by omega)).mp e; omega)]
            have hex := F_exclude hI h ha hb
            have hk : ∀ x, x < 2 → (pb (ClP d) (120 * a + 2 * b + x) = true ↔ (t 21 a ≠ 0 ∧ t 21 a = t 21 b ∧ t 5 a = t 5 b) ∧ stg d (100 + 2 * a + x) ≠ 0 ∧ stg d (100 + 2 * b + x) ≠ 0) := by
              intro x hx
              obtain ⟨c1, c2, c3⟩ := Cl_at (a := a) (b := b) (x := x) (by omega) (by omega) hx
              rw [pb_iff]
              unfold ClP
              rw [c1, c2, c3]
              constructor
              · rintro ⟨-, g2, g3, g4, g5, g6, g7⟩
                obtain ⟨m1, m2, m3, m4⟩ := hI.2.2.1.2.2.1 a (by omega)
                obtain ⟨n1, n2, n3, n4⟩ := hI.2.2.1.2.2.1 b g2
                rw [← m4, ← n4, ← m1, ← n1]
                exact ⟨⟨g3, g4, g5⟩, g6, g7⟩
              · rintro ⟨⟨g3, g4, g5⟩, g6, g7⟩
                have hbd : b < d 4 0 := by
                  rcases FX_valid hI.2.1.1 hI.2.2.2.2.1 g7 with z | z | z
                  · omega
                  · omega
                  · have := z.2.2
                    omega
                obtain ⟨m1, m2, m3, m4⟩ := hI.2.2.1.2.2.1 a (by omega)
                obtain ⟨n1, n2, n3, n4⟩ := hI.2.2.1.2.2.1 b hbd
                rw [m4, n4, m1, n1]
                exact ⟨hab, hbd, g3, g4, g5, g6, g7⟩
            by_cases hx : t 21 a ≠ 0 ∧ t 21 a = t 21 b ∧ t 5 a = t 5 b
            · rw [hex.1 hx, bnd_some, if_neg (by decide)]
              -- the sides
              have sides : (∃ (y1 y2 : Int32) (s' : Sg), (y2 = nI (b + 1) ∧ a < b + 1 ∧ J (120 * a + 2 * (b + 1)) y1 s') ∧ f_FU_clash_69 rec19 rec37 (nI w) (nI a) (nI b) (nI (j - (sel (pb (ClP d)) (120 * a + 2 * b)).length)) 0 s1 = rec37 y1 y2 s') ∨ E (f_FU_clash_69 rec19 rec37 (nI w) (nI a) (nI b) (nI (j - (sel (pb (ClP d)) (120 * a + 2 * b)).length)) 0 s1) := by
                unfold f_FU_clash_69
                refine itr2_run (N := 2) (I := fun x y z s1 => z = nI x ∧ J (120 * a + 2 * b + x) y s1) (E := fun o => (∃ (y1 y2 : Int32) (s' : Sg), (y2 = nI (b + 1) ∧ a < b + 1 ∧ J (120 * a + 2 * (b + 1)) y1 s') ∧ o = rec37 y1 y2 s') ∨ E o) ?_ ?_ 2 4096 0 _ 0 s1 (by omega) (by omega) ⟨nI_0.symm, hl, rfl, rfl⟩
                · rintro rec69 x y z s1 hx2 ⟨rfl, hl, rfl, rfl⟩
                  rw [if_neg (fun e => by have := (nI_leI (a := 2) (by omega) (by omega)).mp e; omega), F_onStage hR (by omega) hx2, bnd_some, hq]
                  have hb1 := hI.2.2.2.2.2.1 (100 + 2 * a + x)
                  have hb2 := hI.2.2.2.2.2.1 (100 + 2 * b + x)
                  by_cases o1 : stg d (100 + 2 * a + x) = 0
                  · rw [if_pos ((nI_l0 (by omega)).mpr o1), ← nI_succ]
                    have hn : ¬ pb (ClP d) (120 * a + 2 * b + x) = true := fun z => ((hk x hx2).mp z).2.1 o1
                    exact Or.inl ⟨_, _, _, ⟨rfl, by rw [show 120 * a + 2 * b + (x + 1) = 120 * a + 2 * b + x + 1 by omega, sel_no hn]; exact hl, by rw [show 120 * a + 2 * b + (x + 1) = 120 * a + 2 * b + x + 1 by omega, sel_no hn], rfl⟩, rfl⟩
                  · rw [if_neg (fun e => o1 ((nI_l0 (by omega)).mp e)), F_onStage hR (by omega) hx2, bnd_some, hq]
                    by_cases o2 : stg d (100 + 2 * b + x) = 0
                    · rw [if_pos ((nI_l0 (by omega)).mpr o2), ← nI_succ]
                      have hn : ¬ pb (ClP d) (120 * a + 2 * b + x) = true := fun z => ((hk x hx2).mp z).2.2 o2
                      exact Or.inl ⟨_, _, _, ⟨rfl, by rw [show 120 * a + 2 * b + (x + 1) = 120 * a + 2 * b + x + 1 by omega, sel_no hn]; exact hl, by rw [show 120 * a + 2 * b + (x + 1) = 120 * a + 2 * b + x + 1 by omega, sel_no hn], rfl⟩, rfl⟩
                    · rw [if_neg (fun e => o2 ((nI_l0 (by omega)).mp e))]
                      have hy : pb (ClP d) (120 * a + 2 * b + x) = true := (hk x hx2).mpr ⟨hx, o1, o2⟩
                      by_cases hz : j - (sel (pb (ClP d)) (120 * a + 2 * b + x)).length = 0
                      · rw [if_pos ((nI_l0 (by omega)).mpr hz)]
                        have ej : j = (sel (pb (ClP d)) (120 * a + 2 * b + x)).length := by omega
                        have eg : (Cl d)[j]? = some (120 * a + 2 * b + x) := by
                          rw [ej]
                          exact sel_get hy 7200 (by omega)
                        obtain ⟨c1, c2, c3⟩ := Cl_at (a := a) (b := b) (x := x) (by omega) (by omega) hx2
                        refine Or.inr (Or.inr ?_)
                        by_cases w0 : w = 0
                        · rw [if_pos ((nI_l0 (by omega)).mpr w0)]
                          exact ⟨_, rfl, Or.inl ⟨j, _, rfl, hj, eg, Or.inl ⟨(nI_l0 (by omega)).mpr w0, by rw [c1]⟩⟩⟩
                        · rw [if_neg (fun e => w0 ((nI_l0 (by omega)).mp e))]
                          by_cases w1 : w = 1
                          · rw [if_pos ((nI_l1 (by omega)).mpr w1)]
                            exact ⟨_, rfl, Or.inl ⟨j, _, rfl, hj, eg, Or.inr (Or.inl ⟨(nI_l1 (by omega)).mpr w1, by rw [c2]⟩)⟩⟩
                          · rw [if_neg (fun e => w1 ((nI_l1 (by omega)).mp e))]
                            exact ⟨_, rfl, Or.inl ⟨j, _, rfl, hj, eg, Or.inr (Or.inr (Or.inl ⟨(nI_l2 (by omega)).mpr (by omega), by rw [c3]⟩))⟩⟩
                      · have em : nI (j - (sel (pb (ClP d)) (120 * a + 2 * b + x)).length) + -1 = nI (j - (sel (pb (ClP d)) (120 * a + 2 * b + x)).length - 1) := by
                          rw [← pk_sub (b := 1) (by omega)]
                          exact (Int32.sub_eq_add_neg _ _).symm
                        rw [if_neg (fun e => hz ((nI_l0 (by omega)).mp e)), em, ← nI_succ]
                        refine Or.inl ⟨_, _, _, ⟨rfl, ?_, ?_, rfl⟩, rfl⟩
                        · rw [show 120 * a + 2 * b + (x + 1) = 120 * a + 2 * b + x + 1 by omega, sel_yes hy, List.length_append]
                          show _ + 1 ≤ _
                          omega
                        · rw [show 120 * a + 2 * b + (x + 1) = 120 * a + 2 * b + x + 1 by omega, sel_yes hy, List.length_append]
                          rfl
                · rintro rec69 y z s1 ⟨rfl, hl, rfl, rfl⟩
                  rw [if_pos (show (2 : Int32) ≤ nI 2 from (nI_leI (a := 2) (by omega) (by omega)).mpr (Nat.le_refl _)), ← nI_succ]
                  exact Or.inl ⟨_, _, _, ⟨rfl, by omega, hl, rfl, rfl⟩, rfl⟩
              rcases sides with ⟨y1, y2, s', hs, e⟩ | hs
              · exact Or.inl ⟨y1, y2, s', hs, e⟩
              · exact Or.inr (Or.inr hs)
            · rw [hex.2 hx, bnd_some, if_pos rfl, ← nI_succ]
              have hn : ∀ x, x < 2 → ¬ pb (ClP d) (120 * a + 2 * b + x) = true := fun x hx2 z => hx ((hk x hx2).mp z).1
              have eg : sel (pb (ClP d)) (120 * a + 2 * (b + 1)) = sel (pb (ClP d)) (120 * a + 2 * b) := sel_gap _ (by omega) (fun c h1 h2 => by
                obtain ⟨x, hx2, rfl⟩ : ∃ x, x < 2 ∧ c = 120 * a + 2 * b + x := ⟨c - (120 * a + 2 * b), by omega, by omega⟩
                exact hn x hx2)
              exact Or.inl ⟨_, _, _, ⟨rfl, by omega, by rw [eg]; exact hl, by rw [eg], rfl⟩, rfl⟩
          · rintro rec37 y z s1 ⟨rfl, hab, hl, rfl, rfl⟩
            rw [hcnt, if_pos ((nI_leI (by omega) (by omega)).mpr (Nat.le_refl _)), ← nI_succ]
            exact Or.inl ⟨_, _, _, ⟨rfl, by rw [hgapB a ha]; exact hl, by rw [hgapB a ha], rfl⟩, rfl⟩
        rcases inner with ⟨y1, y2, s', hs, e⟩ | hs
        · exact Or.inl ⟨y1, y2, s', hs, e⟩
        · exact Or.inr hs
      · rintro rec19 y z s1 ⟨rfl, hl, rfl, rfl⟩
        rw [hcnt, if_pos ((nI_leI (by omega) (by omega)).mpr (Nat.le_refl _))]
        refine ⟨_, rfl, Or.inr ⟨fun j' c e hj' hc => ?_, rfl⟩⟩
        have ej := nI_inj (by omega) (by omega) e
        subst ej
        have hlt := (List.getElem?_eq_some_iff.mp hc).1
        unfold Cl at hlt
        rw [hgapC] at hlt
        omega
    · have e2 : f_FU_within l2 3 s = some (0, s) := within_no (n := 3) (by omega) hno s
      rw [e2, bnd_some, if_pos rfl]
      refine ⟨_, rfl, ?_⟩
      rcases hc : (Cl d)[j]? with _ | c
      · refine Or.inr ⟨fun j' c e hj' h1 => ?_, rfl⟩
        have ej := nI_inj (by omega) (by omega) e
        subst ej
        rw [hc] at h1
        cases h1
      · exact Or.inl ⟨j, c, rfl, hj, hc, Or.inr (Or.inr (Or.inr ⟨fun e => hno 0 (by omega) e, fun e => hno 1 (by omega) e, fun e => hno 2 (by omega) e, rfl⟩))⟩
end Cq
