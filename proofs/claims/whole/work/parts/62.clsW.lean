/-- what leaves -/
noncomputable def Lv (d d1 : Dt) : List Nat := sel (pb (fun k => stg d (100 + k) ≠ 0 ∧ stg d1 (100 + k) = 0)) (2 * d 4 0)
def WV (t d : Dt) (cur : Bool) (l1 l2 : Int32) (u n : Nat) : Prop := cur = true ∧ l1 = nI u ∧ u < t 8 0 ∧ l2 = nI n ∧ n < 32 ∧ d 15 (32 * u + n) = 1
def SpWo (t d : Dt) (cur : Bool) (lv : List Nat) (l1 l2 v : Int32) (lv' : List Nat) : Prop :=
  (∃ u n, WV t d cur l1 l2 u n ∧ lv' = Lv d (up2 d 15 (32 * u + n) 0) ∧ v = nI lv'.length) ∨ ((∀ u n, ¬ WV t d cur l1 l2 u n) ∧ v = -1 ∧ lv' = lv)
def SpLeft (lv : List Nat) (l1 v : Int32) : Prop := (∃ i k, l1 = nI i ∧ i < lv.length ∧ lv[i]? = some k ∧ v = nI k) ∨ ((∀ i, i < lv.length → l1 ≠ nI i) ∧ v = -1)
section Wq
variable {t d : Dt} {cur : Bool} {lv : List Nat} {s : Sg}
theorem C_left (hl : lv.length ≤ 120) (h : CR t d cur lv s) (l1 : Int32) : ∃ v, f_FU_left l1 s = some (v, s) ∧ SpLeft lv l1 v := by
  unfold f_FU_left
  rw [h.2.2.2.2.1]
  rcases hasc l1 lv.length with ⟨i, hi, rfl⟩ | hno
  · rw [within_yes hi (by omega), bnd_some, if_neg (by decide), if_pos (inb_nI (by omega) (by omega)), ix_nI (by omega)]
    have e : lv[i]? = some lv[i] := List.getElem?_eq_getElem hi
    rw [h.2.2.2.2.2 i _ e]
    exact ⟨_, rfl, Or.inl ⟨i, _, rfl, hi, e, rfl⟩⟩
  · rw [within_no (by omega) hno, bnd_some, if_pos rfl]
    exact ⟨_, rfl, Or.inr ⟨hno, rfl⟩⟩
/-- noting what leaves: f and g are the stages in the cells 24 and 27 -/
theorem F_note {f g : Nat → Nat} {nF : Nat} (hnF : nF ≤ 60) (hcnt : s 3 0 = nI nF) (hf : ∀ x, x < 220 → s 24 x = nI (f x)) (hg : ∀ x, x < 220 → s 27 x = nI (g x)) (hfb : ∀ x, f x ≤ 1000) (hgb : ∀ x, g x ≤ 1000) :
    ∃ s', f_FU_noteLeavers s = some (0, s') ∧ (∀ c, c ≠ 0 → c ≠ 30 → s' c = s c) ∧ s' 0 10 = s 0 10 ∧ s' 0 9 = nI (sel (pb (fun k => f (100 + k) ≠ 0 ∧ g (100 + k) = 0)) (2 * nF)).length ∧ ∀ i v, (sel (pb (fun k => f (100 + k) ≠ 0 ∧ g (100 + k) = 0)) (2 * nF))[i]? = some v → s' 30 i = nI v := by
  let J : Nat → Sg → Prop := fun k s1 => (∀ c, c ≠ 0 → c ≠ 30 → s1 c = s c) ∧ s1 0 10 = s 0 10 ∧ s1 0 9 = nI (sel (pb (fun k => f (100 + k) ≠ 0 ∧ g (100 + k) = 0)) k).length ∧ ∀ i v, (sel (pb (fun k => f (100 + k) ≠ 0 ∧ g (100 + k) = 0)) k)[i]? = some v → s1 30 i = nI v
  show (fun o : Ro => ∃ s', o = some (0, s') ∧ J (2 * nF) s') _
  unfold f_FU_noteLeavers f_FU_noteLeavers_7
  have onS : ∀ (s1 : Sg) (a x : Nat), s1 24 = s 24 → a < 60 → x < 2 → f_Clo_onStage 23 (nI a) (nI x) s1 = some (nI (f (100 + 2 * a + x)), s1) := by
    intro s1 a x e ha hx
    unfold f_Clo_onStage
    rw [n100p, if_pos (inb_nI (by omega) (by omega)), ix_nI (by omega), show (23 + 1 : Nat) = 24 from rfl, e, hf _ (by omega)]
  have onT : ∀ (s1 : Sg) (a x : Nat), s1 27 = s 27 → a < 60 → x < 2 → f_Clo_onStage 26 (nI a) (nI x) s1 = some (nI (g (100 + 2 * a + x)), s1) := by
    intro s1 a x e ha hx
    unfold f_Clo_onStage
    rw [n100p, if_pos (inb_nI (by omega) (by omega)), ix_nI (by omega), show (26 + 1 : Nat) = 27 from rfl, e, hg _ (by omega)]
  refine itr1_run (N := nF) (I := fun a y s1 => y = nI a ∧ J (2 * a) s1) (E := fun o : Ro => ∃ s', o = some (0, s') ∧ J (2 * nF) s') ?_ ?_ nF 4096 0 0 _ (by omega) (by omega) ⟨nI_0.symm, fun c h1 h2 => wr_c _ _ _ h1, by simp [wr_at], by simp [wr_at]; rfl, fun i v e => by cases e⟩
  · rintro rec7 a y s1 ha ⟨rfl, j1, j2, j3, j4⟩
    have hc : s1 3 0 = nI nF := by rw [j1 3 (by omega) (by omega)]; exact hcnt
    rw [hc, if_neg (fun e => by have := (nI_leI (by omega) (by omega)).mp e; omega)]
    refine Or.inl ?_
    unfold f_FU_noteLeavers_20
    refine itr1_run (N := 2) (I := fun x y s1 => y = nI x ∧ J (2 * a + x) s1) (E := fun o : Ro => ∃ (y1 : Int32) (s' : Sg), (y1 = nI (a + 1) ∧ J (2 * (a + 1)) s') ∧ o = rec7 y1 s') ?_ ?_ 2 4096 0 0 s1 (by omega) (by omega) ⟨nI_0.symm, j1, j2, j3, j4⟩
    · rintro rec20 x y s1 hx ⟨rfl, j1, j2, j3, j4⟩
      refine Or.inl ?_
      have hfl := hfb (100 + 2 * a + x)
      have hgl := hgb (100 + 2 * a + x)
      rw [if_neg (fun e => by have := (nI_leI (a := 2) (by omega) (by omega)).mp e; omega), onS s1 a x (j1 24 (by omega) (by omega)) (by omega) hx, bnd_some, ← nI_succ]
      have hlen := sel_len (pb (fun k => f (100 + k) ≠ 0 ∧ g (100 + k) = 0)) (2 * a + x)
      by_cases h1 : f (100 + 2 * a + x) = 0
      · rw [if_pos ((nI_l0 (by omega)).mpr h1)]
        have hn : ¬ pb (fun k => f (100 + k) ≠ 0 ∧ g (100 + k) = 0) (2 * a + x) = true := fun z => (pb_iff.mp z).1 (by rw [← Nat.add_assoc]; exact h1)
        refine ⟨_, _, ⟨rfl, j1, j2, ?_, ?_⟩, rfl⟩
        · rw [← Nat.add_assoc, sel_no hn]; exact j3
        · rw [← Nat.add_assoc, sel_no hn]; exact j4
      · rw [if_neg (fun e => h1 ((nI_l0 (by omega)).mp e)), onT s1 a x (j1 27 (by omega) (by omega)) (by omega) hx, bnd_some]
        by_cases h2 : g (100 + 2 * a + x) = 0
        · have hy : pb (fun k => f (100 + k) ≠ 0 ∧ g (100 + k) = 0) (2 * a + x) = true := pb_iff.mpr ⟨by rw [← Nat.add_assoc]; exact h1, by rw [← Nat.add_assoc]; exact h2⟩
          rw [if_pos ((nI_l0 (by omega)).mpr h2), j3, if_pos (inb_nI (by omega) (by omega)), ix_nI (by omega), n2p, ← nI_succ]
          refine ⟨_, _, ⟨rfl, fun c e1 e2 => ?_, ?_, ?_, fun i v hi => ?_⟩, rfl⟩
          · rw [wr_c _ _ _ e1, wr_c _ _ _ e2]; exact j1 c e1 e2
          · rw [wr_k _ _ _ (by omega), wr_c _ _ _ (by omega)]; exact j2
          · rw [wr_s, ← Nat.add_assoc, sel_yes hy, List.length_append]; rfl
          · rw [← Nat.add_assoc, sel_yes hy] at hi
            rw [wr_c _ _ _ (by omega), wr_at]
            by_cases e : i = (sel (pb (fun k => f (100 + k) ≠ 0 ∧ g (100 + k) = 0)) (2 * a + x)).length
            · rw [if_pos ⟨rfl, e⟩]
              rw [e, List.getElem?_append_right (Nat.le_refl _), Nat.sub_self] at hi
              cases hi
              rfl
            · rw [if_neg (fun z => e z.2)]
              have hlt : i < (sel (pb (fun k => f (100 + k) ≠ 0 ∧ g (100 + k) = 0)) (2 * a + x)).length := by
                have := (List.getElem?_eq_some_iff.mp hi).1
                rw [List.length_append] at this
                have h9 : i < (sel (pb (fun k => f (100 + k) ≠ 0 ∧ g (100 + k) = 0)) (2 * a + x)).length + 1 := this
                omega
              rw [List.getElem?_append_left hlt] at hi
              exact j4 i v hi
        · rw [if_neg (fun e => h2 ((nI_l0 (by omega)).mp e))]
          have hn : ¬ pb (fun k => f (100 + k) ≠ 0 ∧ g (100 + k) = 0) (2 * a + x) = true := fun z => h2 (by have := (pb_iff.mp z).2; rwa [← Nat.add_assoc] at this)
          refine ⟨_, _, ⟨rfl, j1, j2, ?_, ?_⟩, rfl⟩
          · rw [← Nat.add_assoc, sel_no hn]; exact j3
          · rw [← Nat.add_assoc, sel_no hn]; exact j4
    · rintro rec20 y s1 ⟨rfl, j1, j2, j3, j4⟩
      rw [if_pos (show (2 : Int32) ≤ nI 2 from (nI_leI (a := 2) (by omega) (by omega)).mpr (Nat.le_refl _)), ← nI_succ]
      exact ⟨_, _, ⟨rfl, j1, j2, j3, j4⟩, rfl⟩
  · rintro rec7 y s1 ⟨rfl, j1, j2, j3, j4⟩
    have hc : s1 3 0 = nI nF := by rw [j1 3 (by omega) (by omega)]; exact hcnt
    rw [hc, if_pos ((nI_leI (by omega) (by omega)).mpr (Nat.le_refl _))]
    exact ⟨s1, rfl, j1, j2, j3, j4⟩
theorem C_without (hI : SI t d cur) (h : CR t d cur lv s) (l1 l2 : Int32) : ∃ v s' lv', f_FU_without l1 l2 s = some (v, s') ∧ SpWo t d cur lv l1 l2 v lv' ∧ CR t d cur lv' s' ∧ Oth s s' ∧ (∀ u n, WV t d cur l1 l2 u n → FX (up2 d 15 (32 * u + n) 0) (stg (up2 d 15 (32 * u + n) 0))) := by
  have hUn := hI.1.1.2.2.1
  have no : (∀ u n, ¬ WV t d cur l1 l2 u n) → ∃ v s' lv', (some (-1, s) : Ro) = some (v, s') ∧ SpWo t d cur lv l1 l2 v lv' ∧ CR t d cur lv' s' ∧ Oth s s' ∧ (∀ u n, WV t d cur l1 l2 u n → FX (up2 d 15 (32 * u + n) 0) (stg (up2 d 15 (32 * u + n) 0))) := fun hn => ⟨_, _, _, rfl, Or.inr ⟨hn, rfl, rfl⟩, h, fun _ _ => rfl, fun u n z => absurd z (hn u n)⟩
  unfold f_FU_without
  rw [h.2.2.2.1]
  by_cases hcur : cur = true
  · rw [if_pos hcur, if_neg (by decide)]
    rcases hasc l1 (t 8 0) with ⟨u, hu, rfl⟩ | hno
    · rw [Uhas_yes h.1.1.2.2.1 hu (by omega), bnd_some, if_neg (by decide)]
      rcases hasc l2 32 with ⟨n, hn, rfl⟩ | hno
      · have e2 : f_FU_within (nI n) 32 s = some (1, s) := within_yes (n := 32) hn (by omega) s
        rw [e2, bnd_some, if_neg (by decide), if_pos (inb_nI (by omega) (by omega)), ix_nI (by omega)]
        have hbt := h.2.1.2.2 u n (by omega) hn
        by_cases h15 : d 15 (32 * u + n) = 1
        · rw [F_bit_t hn (by rw [hbt]; simp [h15]), bnd_some, if_neg (by decide), if_pos (inb_nI (by omega) (by omega)), if_pos (inb_nI (by omega) (by omega))]
          have hWV : WV t d cur (nI u) (nI n) u n := ⟨hcur, rfl, hu, rfl, hn, h15⟩
          have hG1 : DG (up2 d 15 (32 * u + n) 0) := hI.2.1
          have hD := DC_of hI.2.1 hI.2.2.1 h.1 h.2.1
          have hD1 : DC (up2 d 15 (32 * u + n) 0) (wr s 22 u (s 22 u &&& ((1 <<< (nI n &&& 31)) ^^^ -1))) := by
            obtain ⟨⟨c1, c2, c3⟩, c4, c5, c6, c7⟩ := hD
            refine ⟨⟨?_, ?_, fun u' n' hu' hn' => ?_⟩, ?_, ?_, ?_, ?_⟩
            · simpa [wr_at, up2] using c1
            · simpa [wr_at, up2] using c2
            · by_cases e : u' = u
              · subst e
                rw [wr_s, bt_andn _ hn hn', c3 u' n' hu' hn']
                by_cases e2 : n' = n
                · simp [up2, e2]
                · simp [up2, e2]
              · rw [wr_k _ _ _ e, c3 u' n' hu' hn']
                have : 32 * u' + n' ≠ 32 * u + n := by omega
                simp [up2, this]
            · simpa [wr_at, up2] using c4
            · simpa [wr_at, up2] using c5
            · simpa [wr_at, up2] using c6
            · simpa [wr_at, up2] using c7
          obtain ⟨s3, q3, e3, g1, g2, g3, g4, g5, g6⟩ := F_close (c := 26) (by omega) hG1 hD1
          rw [e3, bnd_some, if_pos (inb_nI (by omega) (by omega))]
          have hst : stg (up2 d 15 (32 * u + n) 0) = q3.1 := stg_eq g2
          have fr : ∀ c, c ≠ 22 → c ≠ 26 → c ≠ 27 → c ≠ 28 → wr s3 22 u (s 22 u) c = s c := by
            intro c a1 a2 a3 a4
            rw [wr_c _ _ _ a1, g6 c a2 a3 a4, wr_c _ _ _ a1]
          have fr22 : wr s3 22 u (s 22 u) 22 = s 22 := by
            funext k
            by_cases e : k = u
            · subst e; rw [wr_s]
            · rw [wr_k _ _ _ e, g6 22 (by omega) (by omega) (by omega), wr_k _ _ _ e]
          have hd4 : t 4 0 = d 4 0 := by
            have := congrFun (congrFun (hI.2.2.2.2.2.2 hcur) 4) 0
            exact this.symm
          obtain ⟨s5, e5, m1, m2, m3, m4⟩ := F_note (s := wr s3 22 u (s 22 u)) (f := stg d) (g := q3.1) (nF := t 4 0) hI.1.1.2.1 (by rw [fr 3 (by omega) (by omega) (by omega) (by omega)]; exact h.1.1.2.1) (fun x hx => by rw [fr 24 (by omega) (by omega) (by omega) (by omega)]; exact h.2.2.1 x hx) (fun x hx => by rw [wr_c _ _ _ (by omega)]; exact g1.1 x hx) (fun x => by have := hI.2.2.2.2.2.1 x; omega) (fun x => by have := g5 x; omega)
          rw [e5, bnd_some]
          have eL : Lv d (up2 d 15 (32 * u + n) 0) = sel (pb (fun k => stg d (100 + k) ≠ 0 ∧ q3.1 (100 + k) = 0)) (2 * t 4 0) := by
            unfold Lv
            rw [hst, hd4]
          refine ⟨_, _, _, rfl, Or.inl ⟨u, n, hWV, rfl, by rw [m3, eL]⟩, ⟨?_, ?_, ?_, ?_, ?_, ?_⟩, fun c hc => ?_, fun u' n' hz => ?_⟩
          · exact h.1.fr (fun c a b => by rw [m1 c b (by omega)]; exact fr c (by omega) (by omega) (by omega) (by omega))
          · unfold SC
            rw [m1 21 (by omega) (by omega), m1 22 (by omega) (by omega), fr 21 (by omega) (by omega) (by omega) (by omega), fr22]
            exact h.2.1
          · rw [m1 24 (by omega) (by omega), fr 24 (by omega) (by omega) (by omega) (by omega)]
            exact h.2.2.1
          · rw [m2, fr 0 (by omega) (by omega) (by omega) (by omega)]
            exact h.2.2.2.1
          · rw [m3, eL]
          · rw [eL]; exact m4
          · rw [m1 c (by omega) (by omega), fr c (by omega) (by omega) (by omega) (by omega)]
          · obtain ⟨-, z1, z2, z3, z4, -⟩ := hz
            have c1 := nI_inj (by omega) (by omega) z1
            have c2 := nI_inj (by omega) (by omega) z3
            subst c1; subst c2
            rw [hst]
            exact g2
        · rw [F_bit_f hn (by rw [hbt]; simp [h15]), bnd_some, if_pos rfl]
          refine no ?_
          rintro u' n' ⟨-, z1, z2, z3, z4, z5⟩
          have c1 := nI_inj (by omega) (by omega) z1
          have c2 := nI_inj (by omega) (by omega) z3
          subst c1; subst c2
          exact h15 z5
      · have e2 : f_FU_within l2 32 s = some (0, s) := within_no (n := 32) (by omega) hno s
        rw [e2, bnd_some, if_pos rfl]
        exact no (fun u' n' z => hno n' z.2.2.2.2.1 z.2.2.2.1)
    · rw [Uhas_no h.1.1.2.2.1 (by omega) hno, bnd_some, if_pos rfl]
      exact no (fun u' n' z => hno u' z.2.2.1 z.2.1)
  · rw [if_neg hcur, if_pos rfl]
    exact no (fun u' n' z => hcur z.1)
end Wq
