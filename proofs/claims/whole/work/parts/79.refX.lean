section Rx
variable {t d : Dt} {cur : Bool} {lv : List Nat} {s : Sg}
theorem snap_eq (hI : SI t d cur) (hc : cur = true) {c k : Nat} (h14 : c ≠ 14) (h25 : c ≠ 25) : d c k = t c k := by
  have := congrFun (congrFun (hI.2.2.2.2.2.2 hc) c) k
  rw [this]
  unfold snapd
  rw [if_neg h14, if_neg h25]
/-- without an asking: the rules' numbers and the reference's cells -/
theorem ER_out (hI : SI t d cur) (h : RR t d cur lv s) {a u n : Nat} (ha : a < d 24 0) (h22 : d 22 a = u) (h6 : d 6 (d 23 a) = n) : ER (up2 d 15 (32 * u + n) 0) (wr s 31 40 (nI a)) := by
  have hER := ER_of hI.2.1 hI.2.2.1 hI.2.2.2.1 (NU_of hI.2.2.1 hI.1.2.2.1) h.1 h.2.1 h.2.2.2.2.2
  obtain ⟨hA4, hA1, hA2, hA3⟩ := hI.2.2.2.1
  have hN := NU_of hI.2.2.1 hI.1.2.2.1
  have ho := h.2.2.2.2.2
  obtain ⟨b1, b2, b3, b4, b5, b6, b7, b8⟩ := hER
  refine ⟨?_, ?_, ?_, ?_, ?_, ?_, ?_, ?_⟩
  · simpa [wr_at, up2] using b1
  · simpa [wr_at, up2] using b2
  · simpa [wr_at, up2] using b3
  · simpa [wr_at, up2] using b4
  · simpa [wr_at, up2] using b5
  · simpa [wr_at, up2] using b6
  · simpa [wr_at, up2] using b7
  · intro u' f' hu' hf'
    have hu' : u' < d 8 0 := by simpa [up2] using hu'
    have hf' : f' < d 4 0 := by simpa [up2] using hf'
    have hn' := (hI.2.1.1.2.2.2.2.1 f' hf').2
    have e24 : up2 d 15 (32 * u + n) 0 24 0 = d 24 0 := by simp [up2]
    have e22 : ∀ k, up2 d 15 (32 * u + n) 0 22 k = d 22 k := fun k => by simp [up2]
    have e23 : ∀ k, up2 d 15 (32 * u + n) 0 23 k = d 23 k := fun k => by simp [up2]
    have e5 : up2 d 15 (32 * u + n) 0 5 f' = d 5 f' := by simp [up2]
    have e10 : up2 d 15 (32 * u + n) 0 10 u' = d 10 u' := by simp [up2]
    have e6 : up2 d 15 (32 * u + n) 0 6 f' = d 6 f' := by simp [up2]
    rw [wr_s, e24, e5, e10, e6]
    simp only [e22, e23]
    have hb := b8 u' f' hu' hf'
    rw [ho] at hb
    have hn := (hI.2.1.1.2.2.2.2.1 (d 23 a) (hA1 a ha).2.1).2
    constructor
    · rintro ⟨k, hk, c1, c2, c3⟩
      obtain ⟨g1, g2⟩ := hb.mp ⟨k, hk, c1, c2, nI_m1 (by omega)⟩
      refine ⟨g1, ?_⟩
      have hne : 32 * u' + d 6 f' ≠ 32 * u + n := by
        intro z
        have hu2 : u' = u := by omega
        have hn2 : d 6 f' = n := by omega
        have hf2 : d 23 a = f' := by
          refine hN _ _ (hA1 a ha).2.1 hf' ?_ (by omega)
          rw [(hA1 a ha).2.2, h22, g1, hu2]
        have := hA2 k a hk ha (by omega) (by omega)
        exact c3 (by rw [this])
      rw [up2_n _ (fun z => hne z.2)]
      exact g2
    · rintro ⟨g1, g2⟩
      have hne : ¬ (32 * u' + d 6 f' = 32 * u + n) := by
        intro z
        rw [z, up2_s] at g2
        omega
      rw [up2_n _ (fun z => hne z.2)] at g2
      obtain ⟨k, hk, c1, c2, c3⟩ := hb.mpr ⟨g1, g2⟩
      refine ⟨k, hk, c1, c2, fun z => hne ?_⟩
      have := nI_inj (by omega) (by omega) z
      subst this
      rw [← h22, ← h6, c1, c2]
theorem R_without (hI : SI t d cur) (h : RR t d cur lv s) (l1 l2 : Int32) : ∃ v s' lv', f_Mod_without l1 l2 s = some (v, s') ∧ SpWo t d cur lv l1 l2 v lv' ∧ RR t d cur lv' s' ∧ OthC s s' := by
  have hT := hI.1
  have hFn := hT.1.2.1
  have hUn := hT.1.2.2.1
  have hPn := hT.1.1
  have hdF := hI.2.1.1.2.1
  have h0 := h.code 0
  have hO := OthC.code s 0
  have no : (∀ u n, ¬ WV t d cur l1 l2 u n) → ∀ s1, RR t d cur lv s1 → OthC s s1 → ∃ v s' lv', (some (-1, s1) : Ro) = some (v, s') ∧ SpWo t d cur lv l1 l2 v lv' ∧ RR t d cur lv' s' ∧ OthC s s' := fun hn s1 a b => ⟨_, _, _, rfl, Or.inr ⟨hn, rfl, rfl⟩, a, b⟩
  unfold f_Mod_without
  rcases h.2.2.2.1 with ⟨r1, rfl⟩ | ⟨r1, ⟨r2, rfl⟩ | ⟨r2, rfl⟩⟩
  · rw [r1, if_pos rfl]
    exact no (fun u n z => by have := z.1; cases this) _ h0 hO
  · rw [r1, if_neg (by decide), r2, if_pos rfl]
    generalize wr s 31 0 0 = s0 at h0 hO
    have hTR := h0.1
    obtain ⟨hA4, hA, hAI, hB⟩ := id hT.2.2.2.1
    have e15 : ∀ k, d 15 k = t 15 k := fun k => snap_eq hI rfl (by omega) (by omega)
    have e4 : d 4 0 = t 4 0 := snap_eq hI rfl (by omega) (by omega)
    have e24 : d 24 0 = t 24 0 := snap_eq hI rfl (by omega) (by omega)
    have e22 : ∀ k, d 22 k = t 22 k := fun k => snap_eq hI rfl (by omega) (by omega)
    have e23 : ∀ k, d 23 k = t 23 k := fun k => snap_eq hI rfl (by omega) (by omega)
    have e6 : ∀ k, d 6 k = t 6 k := fun k => snap_eq hI rfl (by omega) (by omega)
    rcases hasc l1 (t 8 0) with ⟨u, hu, rfl⟩ | hno
    · have h10 := (hT.1.2.2.2.2.2.1 u hu).2
      rw [MU_yes hTR.1.2.2.1 hu (by omega), bnd_some, if_neg (by decide), if_pos (inb_nI (by omega) (by omega)), ix_nI (by omega), (hTR.2.2.2.2.1 u hu).2.1]
      -- an asking by this name has a feature and a row
      have find : ∀ u' n, WV t d true (nI u) l2 u' n → ∃ k, k < t 24 0 ∧ t 22 k = u ∧ t 23 k < t 4 0 ∧ t 5 (t 23 k) = t 10 u ∧ l2 = nI (t 6 (t 23 k)) := by
        rintro u' n ⟨-, z1, z2, z3, z4, z5⟩
        have c1 := nI_inj (by omega) (by omega) z1
        subst c1
        rw [e15] at z5
        obtain ⟨k, hk, y1, y2⟩ := (hB u n z4).mp z5
        obtain ⟨x1, x2, x3⟩ := hA k hk
        refine ⟨k, hk, y1, x2, ?_, ?_⟩
        · rw [x3, y1]
        · rw [z3, y2]
      rcases M_named hT.1 hTR (p := t 10 u) (by omega) l2 with ⟨f, hf, a1, rfl, en⟩ | ⟨hnf, en⟩
      · have h6 := (hT.1.2.2.2.2.1 f hf).2
        rw [en, bnd_some, if_neg (nI_m1 (by omega)), hTR.1.2.2.2.1]
        rcases M_ask0 (s := s0) (n := t 24 0) (a := t 22) (b := t 23) hA4 (fun k hk => ⟨(hTR.2.2.2.2.2.1 k hk).1, (hTR.2.2.2.2.2.1 k hk).2, by have := (hA k hk).1; omega, by have := (hA k hk).2.1; omega⟩) (u := u) (f := f) (by omega) (by omega) with ⟨a, hka, b1, b2, ek⟩ | ⟨hnk, ek⟩
        · rw [ek, bnd_some]
          unfold f_Mod_without_60
          rw [if_neg (nI_m1 (by omega))]
          have hWV : WV t d true (nI u) (nI (t 6 f)) u (t 6 f) := ⟨rfl, rfl, hu, rfl, h6, by rw [e15]; exact (ask_iff hT hf a1).mp ⟨a, hka, b1, b2⟩⟩
          have hER := ER_out hI h0 (a := a) (u := u) (n := t 6 f) (by omega) (by rw [e22]; exact b1) (by rw [e23, e6, b2])
          have hG1 : DG (up2 d 15 (32 * u + t 6 f) 0) := hI.2.1
          obtain ⟨M, s2, st, e2, g1, g2, g3, g4⟩ := M_close hG1 hER
          rw [e2, bnd_some]
          have hst : stg (up2 d 15 (32 * u + t 6 f) 0) = st := stg_eq g2
          generalize hs3 : wr (wr s2 31 40 (-1)) 31 42 0 = s3
          have c3 : ∀ c, c ≠ 31 → c ≠ 52 → c ≠ 53 → c ≠ 54 → c ≠ 59 → c ≠ 60 → s3 c = s0 c := fun c a1 a2 a3 a4 a5 a6 => by
            rw [← hs3, wr_c _ _ _ a1, wr_c _ _ _ a1, g4.1 c a1 a2 a3 a4 a5 a6, wr_c _ _ _ a1]
          have k3 : ∀ k, k ≠ 40 → k ≠ 42 → k ≠ 45 → s3 31 k = s0 31 k := fun k a1 a2 a3 => by
            rw [← hs3, wr_k _ _ _ a2, wr_k _ _ _ a1, g4.2 k a3, wr_k _ _ _ a1]
          have h40 : s3 31 40 = -1 := by rw [← hs3, wr_k _ _ _ (by omega), wr_s]
          have h42 : s3 31 42 = 0 := by rw [← hs3, wr_s]
          have h54 : ∀ k, k < 120 → s3 54 k = nI (st (100 + k)) := fun k hk => by
            rw [← hs3, wr_c _ _ _ (by omega), wr_c _ _ _ (by omega)]
            exact g1.2.2.1 k hk
          have h57 : ∀ k, k < 120 → s3 57 k = nI (stg d (100 + k)) := fun k hk => by
            rw [c3 57 (by omega) (by omega) (by omega) (by omega) (by omega) (by omega)]
            exact h0.2.2.1.2.2 k hk
          let p : Nat → Bool := pb (fun k => stg d (100 + k) ≠ 0 ∧ st (100 + k) = 0)
          have eL : Lv d (up2 d 15 (32 * u + t 6 f) 0) = sel p (2 * d 4 0) := by
            unfold Lv
            rw [hst]
          have goal : (fun o : Ro => ∃ v s' lv', o = some (v, s') ∧ SpWo t d true lv (nI u) (nI (t 6 f)) v lv' ∧ RR t d true lv' s' ∧ OthC s s') (f_Mod_without_94 0 s3) := by
            unfold f_Mod_without_94
            refine itr1_run (N := 2 * d 4 0) (I := fun k z s4 => z = nI k ∧ (∀ c, c ≠ 31 → c ≠ 58 → s4 c = s3 c) ∧ (∀ k, k ≠ 42 → s4 31 k = s3 31 k) ∧ s4 31 42 = nI (sel p k).length ∧ ∀ i v, (sel p k)[i]? = some v → s4 58 i = nI v) (E := fun o : Ro => ∃ v s' lv', o = some (v, s') ∧ SpWo t d true lv (nI u) (nI (t 6 f)) v lv' ∧ RR t d true lv' s' ∧ OthC s s') ?_ ?_ (2 * d 4 0) 4096 0 0 s3 (by omega) (by omega) ⟨nI_0.symm, fun _ _ _ => rfl, fun _ _ => rfl, by rw [h42]; rfl, fun i v hi => by cases hi⟩
            · rintro rec k z s4 hk ⟨rfl, j1, j2, j3, j4⟩
              refine Or.inl ?_
              have hb1 := hI.2.2.2.2.2.1 (100 + k)
              have hb2 := g1.2.2.2 (100 + k)
              have hlen := sel_len p k
              rw [j2 26 (by omega), k3 26 (by omega) (by omega) (by omega), h0.2.1.1.2.1, n2n, if_neg (fun z => by have := (nI_leI (by omega) (by omega)).mp z; omega), if_pos (inb_nI (by omega) (by omega)), ix_nI (by omega), j1 57 (by omega) (by omega), h57 k (by omega), ← nI_succ]
              have skip : ¬ p k = true → ∃ (y1 : Int32) (s' : Sg), (y1 = nI (k + 1) ∧ (∀ c, c ≠ 31 → c ≠ 58 → s' c = s3 c) ∧ (∀ k, k ≠ 42 → s' 31 k = s3 31 k) ∧ s' 31 42 = nI (sel p (k + 1)).length ∧ ∀ i v, (sel p (k + 1))[i]? = some v → s' 58 i = nI v) ∧ rec (nI (k + 1)) s4 = rec y1 s' := by
                intro hn
                refine ⟨_, _, ⟨rfl, j1, j2, ?_, ?_⟩, rfl⟩
                · rw [sel_no hn]; exact j3
                · rw [sel_no hn]; exact j4
              by_cases o1 : stg d (100 + k) = 0
              · rw [if_pos ((nI_l0 (by omega)).mpr o1)]
                exact skip (fun z => (pb_iff.mp z).1 o1)
              · rw [if_neg (fun z => o1 ((nI_l0 (by omega)).mp z)), if_pos (inb_nI (by omega) (by omega)), j1 54 (by omega) (by omega), h54 k (by omega)]
                by_cases o2 : st (100 + k) = 0
                · have hy : p k = true := pb_iff.mpr ⟨o1, o2⟩
                  rw [if_pos (show nI _ ≤ (0 : Int32) from (nI_leI (b := 0) (by omega) (by omega)).mpr (by omega)), j3, if_pos (inb_nI (by omega) (by omega)), ix_nI (by omega), ← nI_succ]
                  refine ⟨_, _, ⟨rfl, fun c a1 a2 => ?_, fun q hq => ?_, ?_, fun i v hi => ?_⟩, rfl⟩
                  · rw [wr_c _ _ _ a1, wr_c _ _ _ a2]; exact j1 c a1 a2
                  · rw [wr_k _ _ _ hq, wr_c _ _ _ (by omega)]; exact j2 q hq
                  · rw [wr_s, sel_yes hy, List.length_append]; rfl
                  · rw [sel_yes hy] at hi
                    rw [wr_c _ _ _ (by omega), wr_at]
                    by_cases ei : i = (sel p k).length
                    · rw [if_pos ⟨rfl, ei⟩]
                      rw [ei, List.getElem?_append_right (Nat.le_refl _), Nat.sub_self] at hi
                      cases hi
                      rfl
                    · rw [if_neg (fun z => ei z.2)]
                      have hlt : i < (sel p k).length := by
                        have h9 := (List.getElem?_eq_some_iff.mp hi).1
                        rw [List.length_append] at h9
                        have h9 : i < (sel p k).length + 1 := h9
                        omega
                      rw [List.getElem?_append_left hlt] at hi
                      exact j4 i v hi
                · rw [if_neg (show ¬ nI _ ≤ (0 : Int32) from fun z => o2 (by have := (nI_leI (b := 0) (by omega) (by omega)).mp z; omega))]
                  exact skip (fun z => o2 (pb_iff.mp z).2)
            · rintro rec z s4 ⟨rfl, j1, j2, j3, j4⟩
              rw [j2 26 (by omega), k3 26 (by omega) (by omega) (by omega), h0.2.1.1.2.1, n2n, if_pos ((nI_leI (by omega) (by omega)).mpr (Nat.le_refl _)), j3]
              have cc : ∀ c, c ≠ 31 → c ≠ 52 → c ≠ 53 → c ≠ 54 → c ≠ 58 → c ≠ 59 → c ≠ 60 → s4 c = s0 c := fun c a1 a2 a3 a4 a5 a6 a7 => (j1 c a1 a5).trans (c3 c a1 a2 a3 a4 a6 a7)
              have kk : ∀ k, k ≠ 40 → k ≠ 42 → k ≠ 45 → s4 31 k = s0 31 k := fun k a1 a2 a3 => (j2 k a2).trans (k3 k a1 a2 a3)
              refine ⟨_, _, _, rfl, Or.inl ⟨u, t 6 f, hWV, rfl, by rw [eL]⟩, ?_, fun c hc => ?_⟩
              · obtain ⟨w1, w2, w3, w4, w5, w6⟩ := h0
                refine ⟨?_, ?_, ?_, ?_, ⟨?_, ?_⟩, ?_⟩
                · unfold TR
                  have f (c : Nat) (a1 : c ≠ 31) (a2 : c ≠ 52) (a3 : c ≠ 53) (a4 : c ≠ 54) (a5 : c ≠ 58) (a6 : c ≠ 59) (a7 : c ≠ 60) := cc c a1 a2 a3 a4 a5 a6 a7
                  rw [kk 1 (by omega) (by omega) (by omega), kk 2 (by omega) (by omega) (by omega), kk 3 (by omega) (by omega) (by omega), kk 4 (by omega) (by omega) (by omega), kk 5 (by omega) (by omega) (by omega),
                    f 32 (by omega) (by omega) (by omega) (by omega) (by omega) (by omega) (by omega), f 33 (by omega) (by omega) (by omega) (by omega) (by omega) (by omega) (by omega), f 34 (by omega) (by omega) (by omega) (by omega) (by omega) (by omega) (by omega), f 35 (by omega) (by omega) (by omega) (by omega) (by omega) (by omega) (by omega), f 36 (by omega) (by omega) (by omega) (by omega) (by omega) (by omega) (by omega), f 37 (by omega) (by omega) (by omega) (by omega) (by omega) (by omega) (by omega), f 38 (by omega) (by omega) (by omega) (by omega) (by omega) (by omega) (by omega), f 39 (by omega) (by omega) (by omega) (by omega) (by omega) (by omega) (by omega), f 40 (by omega) (by omega) (by omega) (by omega) (by omega) (by omega) (by omega), f 41 (by omega) (by omega) (by omega) (by omega) (by omega) (by omega) (by omega), f 42 (by omega) (by omega) (by omega) (by omega) (by omega) (by omega) (by omega), f 43 (by omega) (by omega) (by omega) (by omega) (by omega) (by omega) (by omega), f 44 (by omega) (by omega) (by omega) (by omega) (by omega) (by omega) (by omega), f 45 (by omega) (by omega) (by omega) (by omega) (by omega) (by omega) (by omega), f 46 (by omega) (by omega) (by omega) (by omega) (by omega) (by omega) (by omega), f 47 (by omega) (by omega) (by omega) (by omega) (by omega) (by omega) (by omega), f 48 (by omega) (by omega) (by omega) (by omega) (by omega) (by omega) (by omega), f 49 (by omega) (by omega) (by omega) (by omega) (by omega) (by omega) (by omega), f 50 (by omega) (by omega) (by omega) (by omega) (by omega) (by omega) (by omega)]
                  exact w1
                · unfold SR
                  rw [kk 25 (by omega) (by omega) (by omega), kk 26 (by omega) (by omega) (by omega), kk 27 (by omega) (by omega) (by omega), kk 28 (by omega) (by omega) (by omega), kk 29 (by omega) (by omega) (by omega), kk 30 (by omega) (by omega) (by omega), cc 51 (by omega) (by omega) (by omega) (by omega) (by omega) (by omega) (by omega)]
                  exact w2
                · rw [cc 55 (by omega) (by omega) (by omega) (by omega) (by omega) (by omega) (by omega), cc 56 (by omega) (by omega) (by omega) (by omega) (by omega) (by omega) (by omega), cc 57 (by omega) (by omega) (by omega) (by omega) (by omega) (by omega) (by omega)]
                  exact w3
                · unfold RCu
                  rw [kk 32 (by omega) (by omega) (by omega), kk 33 (by omega) (by omega) (by omega)]
                  exact w4
                · rw [eL]; exact j3
                · rw [eL]; exact j4
                · rw [j2 40 (by omega)]; exact h40
              · exact (cc c (by omega) (by omega) (by omega) (by omega) (by omega) (by omega) (by omega)).trans (hO c hc)
          exact goal
        · rw [ek, bnd_some]
          unfold f_Mod_without_60
          rw [if_pos rfl]
          refine no (fun u' n z => ?_) _ h0 hO
          obtain ⟨k, hk, y1, y2, y3, y4⟩ := find u' n z
          have h6k := (hT.1.2.2.2.2.1 _ y2).2
          have hff : t 23 k = f := hT.2.2.1 _ _ y2 hf (by omega) (nI_inj (by omega) (by omega) y4).symm
          exact hnk k hk ⟨y1, hff⟩
      · rw [en, bnd_some, if_pos rfl]
        unfold f_Mod_without_60
        rw [if_pos rfl]
        refine no (fun u' n z => ?_) _ h0 hO
        obtain ⟨k, hk, y1, y2, y3, y4⟩ := find u' n z
        exact hnf _ y2 y3 y4
    · rw [MU_no hTR.1.2.2.1 (by omega) hno, bnd_some, if_pos rfl]
      exact no (fun u' n z => hno u' z.2.2.1 z.2.1) _ h0 hO
  · rw [r1, if_neg (by decide), r2, if_neg (by decide)]
    exact no (fun u n z => by have := z.1; cases this) _ h0 hO
end Rx
