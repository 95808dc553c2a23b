section Rw
variable {t d : Dt} {cur : Bool} {lv : List Nat} {s : Sg}
/-- copying the stages of a closing: cells 52, 53, 54 to 55, 56, 57 -/
theorem M_copy {st : Nat → Nat} {v : Int32} (hM : MRep st s) : ∃ s', f_Mod_run_105 v 0 s = some (v, s') ∧ (∀ c, c ≠ 55 → c ≠ 56 → c ≠ 57 → s' c = s c) ∧ (∀ k, k < 20 → s' 55 k = nI (st k)) ∧ (∀ k, k < 80 → s' 56 k = nI (st (20 + k))) ∧ (∀ k, k < 120 → s' 57 k = nI (st (100 + k))) := by
  let Fr3 : Sg → Prop := fun s1 => ∀ c, c ≠ 55 → c ≠ 56 → c ≠ 57 → s1 c = s c
  show (fun o : Ro => ∃ s', o = some (v, s') ∧ Fr3 s' ∧ (∀ k, k < 20 → s' 55 k = nI (st k)) ∧ (∀ k, k < 80 → s' 56 k = nI (st (20 + k))) ∧ (∀ k, k < 120 → s' 57 k = nI (st (100 + k)))) _
  unfold f_Mod_run_105
  refine itr1_run (N := 20) (I := fun k z s1 => z = nI k ∧ (∀ j, j < k → s1 55 j = nI (st j)) ∧ Fr3 s1) (E := fun o : Ro => ∃ s', o = some (v, s') ∧ Fr3 s' ∧ (∀ k, k < 20 → s' 55 k = nI (st k)) ∧ (∀ k, k < 80 → s' 56 k = nI (st (20 + k))) ∧ (∀ k, k < 120 → s' 57 k = nI (st (100 + k)))) ?_ ?_ 20 4096 0 0 s (by omega) (by omega) ⟨nI_0.symm, fun j hj => absurd hj (Nat.not_lt_zero _), fun _ _ _ _ => rfl⟩
  · rintro rec k z s1 hk ⟨rfl, hz, hC⟩
    refine Or.inl ?_
    rw [if_neg (fun z => by have := (nI_leI (a := 20) (by omega) (by omega)).mp z; omega), if_pos (inb_nI hk (by omega)), if_pos (inb_nI hk (by omega)), ix_nI (by omega), ← nI_succ, hC 52 (by omega) (by omega) (by omega), hM.1 k hk]
    refine ⟨_, _, ⟨rfl, fun j hj => ?_, fun c a b g => ?_⟩, rfl⟩
    · by_cases g : j = k
      · subst g; rw [wr_s]
      · rw [wr_k _ _ _ g]; exact hz j (by omega)
    · rw [wr_c _ _ _ a]; exact hC c a b g
  · rintro rec z s1 ⟨rfl, hz2, hC⟩
    rw [if_pos (show (20 : Int32) ≤ nI 20 from (nI_leI (a := 20) (by omega) (by omega)).mpr (Nat.le_refl _))]
    unfold f_Mod_run_131
    refine itr1_run (N := 80) (I := fun k z s1 => z = nI k ∧ (∀ j, j < 20 → s1 55 j = nI (st j)) ∧ (∀ j, j < k → s1 56 j = nI (st (20 + j))) ∧ Fr3 s1) (E := fun o : Ro => ∃ s', o = some (v, s') ∧ Fr3 s' ∧ (∀ k, k < 20 → s' 55 k = nI (st k)) ∧ (∀ k, k < 80 → s' 56 k = nI (st (20 + k))) ∧ (∀ k, k < 120 → s' 57 k = nI (st (100 + k)))) ?_ ?_ 80 4096 0 0 s1 (by omega) (by omega) ⟨nI_0.symm, hz2, fun j hj => absurd hj (Nat.not_lt_zero _), hC⟩
    · rintro rec k z s1 hk ⟨rfl, hz2, hz, hC⟩
      refine Or.inl ?_
      rw [if_neg (fun z => by have := (nI_leI (a := 80) (by omega) (by omega)).mp z; omega), if_pos (inb_nI hk (by omega)), if_pos (inb_nI hk (by omega)), ix_nI (by omega), ← nI_succ, hC 53 (by omega) (by omega) (by omega), hM.2.1 k hk]
      refine ⟨_, _, ⟨rfl, fun j hj => ?_, fun j hj => ?_, fun c a b g => ?_⟩, rfl⟩
      · rw [wr_c _ _ _ (by omega)]; exact hz2 j hj
      · by_cases g : j = k
        · subst g; rw [wr_s]
        · rw [wr_k _ _ _ g]; exact hz j (by omega)
      · rw [wr_c _ _ _ b]; exact hC c a b g
    · rintro rec z s1 ⟨rfl, hz2, hz3, hC⟩
      rw [if_pos (show (80 : Int32) ≤ nI 80 from (nI_leI (a := 80) (by omega) (by omega)).mpr (Nat.le_refl _))]
      unfold f_Mod_run_157
      refine itr1_run (N := 120) (I := fun k z s1 => z = nI k ∧ (∀ j, j < 20 → s1 55 j = nI (st j)) ∧ (∀ j, j < 80 → s1 56 j = nI (st (20 + j))) ∧ (∀ j, j < k → s1 57 j = nI (st (100 + j))) ∧ Fr3 s1) (E := fun o : Ro => ∃ s', o = some (v, s') ∧ Fr3 s' ∧ (∀ k, k < 20 → s' 55 k = nI (st k)) ∧ (∀ k, k < 80 → s' 56 k = nI (st (20 + k))) ∧ (∀ k, k < 120 → s' 57 k = nI (st (100 + k)))) ?_ ?_ 120 4096 0 0 s1 (by omega) (by omega) ⟨nI_0.symm, hz2, hz3, fun j hj => absurd hj (Nat.not_lt_zero _), hC⟩
      · rintro rec k z s1 hk ⟨rfl, hz2, hz3, hz, hC⟩
        refine Or.inl ?_
        rw [if_neg (fun z => by have := (nI_leI (a := 120) (by omega) (by omega)).mp z; omega), if_pos (inb_nI hk (by omega)), if_pos (inb_nI hk (by omega)), ix_nI (by omega), ← nI_succ, hC 54 (by omega) (by omega) (by omega), hM.2.2.1 k hk]
        refine ⟨_, _, ⟨rfl, fun j hj => ?_, fun j hj => ?_, fun j hj => ?_, fun c a b g => ?_⟩, rfl⟩
        · rw [wr_c _ _ _ (by omega)]; exact hz2 j hj
        · rw [wr_c _ _ _ (by omega)]; exact hz3 j hj
        · by_cases g : j = k
          · subst g; rw [wr_s]
          · rw [wr_k _ _ _ g]; exact hz j (by omega)
        · rw [wr_c _ _ _ g]; exact hC c a b g
      · rintro rec z s1 ⟨rfl, hz2, hz3, hz4, hC⟩
        rw [if_pos (show (120 : Int32) ≤ nI 120 from (nI_leI (a := 120) (by omega) (by omega)).mpr (Nat.le_refl _))]
        exact ⟨s1, rfl, hC, hz2, hz3, hz4⟩
theorem R_run (hT : TOk t) (h : RR t d cur lv s) (l1 : Int32) : ∃ v s' d' cur', f_Mod_run l1 s = some (v, s') ∧ SpRun t d cur l1 v d' cur' ∧ RR t d' cur' lv s' ∧ OthC s s' := by
  obtain ⟨hD, hF, hN, hA, hFew, h21⟩ := id hT
  have h0 := h.code 0
  have hO := OthC.code s 0
  have no : (∀ pl, pl < 8 → l1 ≠ nI pl) → ∃ v s' d' cur', (some (-1, wr s 31 0 0) : Ro) = some (v, s') ∧ SpRun t d cur l1 v d' cur' ∧ RR t d' cur' lv s' ∧ OthC s s' := fun hn => ⟨_, _, _, _, rfl, Or.inr ⟨hn, rfl, rfl, rfl⟩, h0, hO⟩
  unfold f_Mod_run
  by_cases n0 : l1 < 0
  · rw [if_pos n0]
    exact no (fun pl hp e => by rw [e] at n0; exact nI_pos (by omega) n0)
  rw [if_neg n0]
  obtain ⟨pl, hpl', rfl⟩ := nI_of_nn n0
  by_cases n1 : pl < 8
  · rw [if_pos (show nI pl < 8 from (nI_ltI (b := 8) (by omega) (by omega)).mpr n1)]
    have hG := snapd_DG hD hF n1
    have hSn : Sn (snapd t pl) t := snapd_Sn h21
    have hTR := h.1
    generalize hs1 : wr (wr (wr (wr (wr (wr (wr s 31 0 0) 31 30 (nI pl)) 31 25 (s 31 1)) 31 26 (s 31 2)) 31 27 (s 31 3)) 31 28 (s 31 4)) 31 29 (s 31 5) = s1
    have c1 : ∀ c, c ≠ 31 → s1 c = s c := fun c hc => by
      rw [← hs1]
      simp only [wr_c _ _ _ hc]
    have k1 : ∀ k, k ≠ 0 → k ≠ 25 → k ≠ 26 → k ≠ 27 → k ≠ 28 → k ≠ 29 → k ≠ 30 → s1 31 k = s 31 k := fun k a0 a1 a2 a3 a4 a5 a6 => by
      rw [← hs1, wr_k _ _ _ a5, wr_k _ _ _ a4, wr_k _ _ _ a3, wr_k _ _ _ a2, wr_k _ _ _ a1, wr_k _ _ _ a6, wr_k _ _ _ a0]
    have m25 : s1 31 25 = nI (t 0 0) := by rw [← hs1, ← hTR.1.1]; simp [wr_at]
    have m26 : s1 31 26 = nI (t 4 0) := by rw [← hs1, ← hTR.1.2.1]; simp [wr_at]
    have m27 : s1 31 27 = nI (t 8 0) := by rw [← hs1, ← hTR.1.2.2.1]; simp [wr_at]
    have m28 : s1 31 28 = nI (t 24 0) := by rw [← hs1, ← hTR.1.2.2.2.1]; simp [wr_at]
    have m29 : s1 31 29 = nI (t 16 0) := by rw [← hs1, ← hTR.1.2.2.2.2]; simp [wr_at]
    have m30 : s1 31 30 = nI pl := by rw [← hs1]; simp [wr_at]
    have goal : (fun o : Ro => ∃ v s' d' cur', o = some (v, s') ∧ SpRun t d cur (nI pl) v d' cur' ∧ RR t d' cur' lv s' ∧ OthC s s') (f_Mod_run_64 0 s1) := by
      unfold f_Mod_run_64
      refine itr1_run (N := 10) (I := fun k z s2 => z = nI k ∧ (∀ j, j < k → s2 51 j = s 33 j) ∧ (∀ c, c ≠ 51 → s2 c = s1 c)) (E := fun o : Ro => ∃ v s' d' cur', o = some (v, s') ∧ SpRun t d cur (nI pl) v d' cur' ∧ RR t d' cur' lv s' ∧ OthC s s') ?_ ?_ 10 4096 0 0 s1 (by omega) (by omega) ⟨nI_0.symm, fun j hj => absurd hj (Nat.not_lt_zero _), fun _ _ => rfl⟩
      · rintro rec k z s2 hk ⟨rfl, hz, hC⟩
        refine Or.inl ?_
        have e33 : s2 33 k = s 33 k := by rw [hC 33 (by omega), c1 33 (by omega)]
        have hb : isb (s 33 k) = true := by
          rw [(hTR.2.2.1 k hk).1]
          split <;> rfl
        rw [if_neg (fun z => by have := (nI_leI (a := 10) (by omega) (by omega)).mp z; omega), if_pos (inb_nI hk (by omega)), if_pos (inb_nI hk (by omega)), ix_nI (by omega), e33, if_pos hb, ← nI_succ]
        refine ⟨_, _, ⟨rfl, fun j hj => ?_, fun c hc => ?_⟩, rfl⟩
        · by_cases g : j = k
          · subst g; rw [wr_s]
          · rw [wr_k _ _ _ g]; exact hz j (by omega)
        · rw [wr_c _ _ _ hc]; exact hC c hc
      · rintro rec z s2 ⟨rfl, hz, hC⟩
        rw [if_pos (show (10 : Int32) ≤ nI 10 from (nI_leI (a := 10) (by omega) (by omega)).mpr (Nat.le_refl _))]
        generalize hs3 : wr (wr s2 31 32 1) 31 33 0 = s3
        have c3 : ∀ c, c ≠ 31 → c ≠ 51 → s3 c = s c := fun c a b => by
          rw [← hs3, wr_c _ _ _ a, wr_c _ _ _ a, hC c b, c1 c a]
        have k3 : ∀ k, k ≠ 32 → k ≠ 33 → s3 31 k = s1 31 k := fun k a b => by
          rw [← hs3, wr_k _ _ _ b, wr_k _ _ _ a, hC 31 (by omega)]
        have e51 : s3 51 = s2 51 := by rw [← hs3, wr_c _ _ _ (by omega), wr_c _ _ _ (by omega)]
        have hTR3 : TR t s3 := by
          unfold TR
          rw [k3 1 (by omega) (by omega), k3 2 (by omega) (by omega), k3 3 (by omega) (by omega), k3 4 (by omega) (by omega), k3 5 (by omega) (by omega), k1 1 (by omega) (by omega) (by omega) (by omega) (by omega) (by omega) (by omega), k1 2 (by omega) (by omega) (by omega) (by omega) (by omega) (by omega) (by omega), k1 3 (by omega) (by omega) (by omega) (by omega) (by omega) (by omega) (by omega), k1 4 (by omega) (by omega) (by omega) (by omega) (by omega) (by omega) (by omega), k1 5 (by omega) (by omega) (by omega) (by omega) (by omega) (by omega) (by omega),
            c3 32 (by omega) (by omega), c3 33 (by omega) (by omega), c3 34 (by omega) (by omega), c3 35 (by omega) (by omega), c3 36 (by omega) (by omega), c3 37 (by omega) (by omega), c3 38 (by omega) (by omega), c3 39 (by omega) (by omega), c3 40 (by omega) (by omega), c3 41 (by omega) (by omega), c3 42 (by omega) (by omega), c3 43 (by omega) (by omega), c3 44 (by omega) (by omega), c3 45 (by omega) (by omega), c3 46 (by omega) (by omega), c3 47 (by omega) (by omega), c3 48 (by omega) (by omega), c3 49 (by omega) (by omega), c3 50 (by omega) (by omega)]
          exact hTR
        have hSR3 : SR (snapd t pl) s3 := by
          refine ⟨⟨?_, ?_, ?_, ?_, ?_, ?_⟩, fun p hp => ?_⟩
          · rw [k3 25 (by omega) (by omega)]; exact m25
          · rw [k3 26 (by omega) (by omega)]; exact m26
          · rw [k3 27 (by omega) (by omega)]; exact m27
          · rw [k3 28 (by omega) (by omega)]; exact m28
          · rw [k3 29 (by omega) (by omega)]; exact m29
          · rw [k3 30 (by omega) (by omega)]; exact m30
          · rw [e51, hz p hp]; exact (hTR.2.2.1 p hp).1
        have ho3 : s3 31 40 = -1 := by
          rw [k3 40 (by omega) (by omega), k1 40 (by omega) (by omega) (by omega) (by omega) (by omega) (by omega) (by omega)]
          exact h.2.2.2.2.2
        have hER := ER_of hG hSn (show AskOk (snapd t pl) from hA) (NU_of hSn hN) hTR3 hSR3 ho3
        obtain ⟨M, s4, st, e4, g1, g2, g3, g4⟩ := M_close hG hER
        rw [e4, bnd_some]
        obtain ⟨s5, e5, q1, q2, q3, q4⟩ := M_copy (v := nI M) g1
        rw [e5]
        have hst : stg (snapd t pl) = st := stg_eq g2
        have hRb : ∀ c, c ≠ 31 → c ≠ 52 → c ≠ 53 → c ≠ 54 → c ≠ 55 → c ≠ 56 → c ≠ 57 → c ≠ 59 → c ≠ 60 → s5 c = s3 c := fun c a1 a2 a3 a4 a5 a6 a7 a8 a9 => by
          rw [q1 c a5 a6 a7, g4.1 c a1 a2 a3 a4 a8 a9]
        have hRk : ∀ k, k ≠ 45 → s5 31 k = s3 31 k := fun k hk => by
          rw [q1 31 (by omega) (by omega) (by omega), g4.2 k hk]
        refine ⟨_, _, _, true, rfl, Or.inl ⟨pl, M, rfl, n1, rfl, rfl, by rw [hst]; exact g3, rfl⟩, ⟨?_, ?_, ⟨?_, ?_, ?_⟩, ?_, ⟨?_, ?_⟩, ?_⟩, fun c hc => ?_⟩
        · unfold TR
          have f (c : Nat) (a1 : c ≠ 31) (a2 : c ≠ 52) (a3 : c ≠ 53) (a4 : c ≠ 54) (a5 : c ≠ 55) (a6 : c ≠ 56) (a7 : c ≠ 57) (a8 : c ≠ 59) (a9 : c ≠ 60) := hRb c a1 a2 a3 a4 a5 a6 a7 a8 a9
          rw [hRk 1 (by omega), hRk 2 (by omega), hRk 3 (by omega), hRk 4 (by omega), hRk 5 (by omega),
            f 32 (by omega) (by omega) (by omega) (by omega) (by omega) (by omega) (by omega) (by omega) (by omega), f 33 (by omega) (by omega) (by omega) (by omega) (by omega) (by omega) (by omega) (by omega) (by omega), f 34 (by omega) (by omega) (by omega) (by omega) (by omega) (by omega) (by omega) (by omega) (by omega), f 35 (by omega) (by omega) (by omega) (by omega) (by omega) (by omega) (by omega) (by omega) (by omega), f 36 (by omega) (by omega) (by omega) (by omega) (by omega) (by omega) (by omega) (by omega) (by omega), f 37 (by omega) (by omega) (by omega) (by omega) (by omega) (by omega) (by omega) (by omega) (by omega), f 38 (by omega) (by omega) (by omega) (by omega) (by omega) (by omega) (by omega) (by omega) (by omega), f 39 (by omega) (by omega) (by omega) (by omega) (by omega) (by omega) (by omega) (by omega) (by omega), f 40 (by omega) (by omega) (by omega) (by omega) (by omega) (by omega) (by omega) (by omega) (by omega), f 41 (by omega) (by omega) (by omega) (by omega) (by omega) (by omega) (by omega) (by omega) (by omega), f 42 (by omega) (by omega) (by omega) (by omega) (by omega) (by omega) (by omega) (by omega) (by omega), f 43 (by omega) (by omega) (by omega) (by omega) (by omega) (by omega) (by omega) (by omega) (by omega), f 44 (by omega) (by omega) (by omega) (by omega) (by omega) (by omega) (by omega) (by omega) (by omega), f 45 (by omega) (by omega) (by omega) (by omega) (by omega) (by omega) (by omega) (by omega) (by omega), f 46 (by omega) (by omega) (by omega) (by omega) (by omega) (by omega) (by omega) (by omega) (by omega), f 47 (by omega) (by omega) (by omega) (by omega) (by omega) (by omega) (by omega) (by omega) (by omega), f 48 (by omega) (by omega) (by omega) (by omega) (by omega) (by omega) (by omega) (by omega) (by omega), f 49 (by omega) (by omega) (by omega) (by omega) (by omega) (by omega) (by omega) (by omega) (by omega), f 50 (by omega) (by omega) (by omega) (by omega) (by omega) (by omega) (by omega) (by omega) (by omega)]
          exact hTR3
        · unfold SR
          rw [hRk 25 (by omega), hRk 26 (by omega), hRk 27 (by omega), hRk 28 (by omega), hRk 29 (by omega), hRk 30 (by omega), hRb 51 (by omega) (by omega) (by omega) (by omega) (by omega) (by omega) (by omega) (by omega) (by omega)]
          exact hSR3
        · rw [hst]; exact q2
        · rw [hst]; exact q3
        · rw [hst]; exact q4
        · refine Or.inr ⟨?_, Or.inl ⟨?_, rfl⟩⟩
          · rw [hRk 32 (by omega), ← hs3, wr_k _ _ _ (by omega), wr_s]
          · rw [hRk 33 (by omega), ← hs3, wr_s]
        · rw [hRk 42 (by omega), k3 42 (by omega) (by omega), k1 42 (by omega) (by omega) (by omega) (by omega) (by omega) (by omega) (by omega)]
          exact h.2.2.2.2.1.1
        · rw [hRb 58 (by omega) (by omega) (by omega) (by omega) (by omega) (by omega) (by omega) (by omega) (by omega), c3 58 (by omega) (by omega)]
          exact h.2.2.2.2.1.2
        · rw [hRk 40 (by omega)]; exact ho3
        · rw [hRb c (by omega) (by omega) (by omega) (by omega) (by omega) (by omega) (by omega) (by omega) (by omega), c3 c (by omega) (by omega)]
    exact goal
  · rw [if_neg (show ¬ nI pl < 8 from fun z => n1 ((nI_ltI (b := 8) (by omega) (by omega)).mp z))]
    exact no (fun p hp e => n1 (by have := nI_inj (by omega) (by omega) e; omega))
theorem R_clash (hI : SI t d cur) (h : RR t d cur lv s) (l1 l2 : Int32) : ∃ v s', f_Mod_clash l1 l2 s = some (v, s') ∧ SpClash d l1 l2 v ∧ RR t d cur lv s' ∧ OthC s s' := by
  have hFn := hI.2.1.1.2.1
  have hPn := hI.2.1.1.1
  have h0 := h.code 0
  have hO := OthC.code s 0
  unfold f_Mod_clash
  generalize wr s 31 0 0 = s0 at h0 hO
  have hcnt := h0.2.1.1.2.1
  have h57 := h0.2.2.1.2.2
  let E : Ro → Prop := fun o => ∃ v s', o = some (v, s') ∧ SpClash d l1 l2 v ∧ RR t d cur lv s' ∧ OthC s s'
  let J : Nat → Int32 → Sg → Prop := fun c y s1 => y = nI (sel (pb (ClP d)) c).length ∧ (∀ j, l1 = nI j → j < 2147483648 → (sel (pb (ClP d)) c).length ≤ j) ∧ s1 = s0
  have hgapA : ∀ a, a < d 4 0 → sel (pb (ClP d)) (120 * a + 2 * (a + 1)) = sel (pb (ClP d)) (120 * a) := fun a ha => sel_gap _ (by omega) (fun c h1 h2 z => by
    have := (pb_iff.mp z).1
    omega)
  have hgapB : ∀ a, a < d 4 0 → sel (pb (ClP d)) (120 * (a + 1)) = sel (pb (ClP d)) (120 * a + 2 * d 4 0) := fun a ha => sel_gap _ (by omega) (fun c h1 h2 z => by
    have := (pb_iff.mp z).2.1
    omega)
  have hgapC : sel (pb (ClP d)) 7200 = sel (pb (ClP d)) (120 * d 4 0) := sel_gap _ (by omega) (fun c h1 h2 z => by
    have h3 := (pb_iff.mp z).1
    have h4 := (pb_iff.mp z).2.1
    omega)
  show E _
  unfold f_Mod_clash_10
  refine itr2_run (N := d 4 0) (I := fun a y z s1 => z = nI a ∧ J (120 * a) y s1) (E := E) ?_ ?_ (d 4 0) 4096 0 0 0 s0 (by omega) (by omega) ⟨nI_0.symm, nI_0.symm, fun _ _ _ => Nat.zero_le _, rfl⟩
  · rintro rec10 a y z s1 ha ⟨rfl, rfl, hl, rfl⟩
    have hTa := hI.2.2.1.1.2.1
    rw [hcnt, if_neg (fun e => by have := (nI_leI (by omega) (by omega)).mp e; omega), ← nI_succ]
    have inner : (∃ (y1 y2 : Int32) (s' : Sg), (y2 = nI (a + 1) ∧ J (120 * (a + 1)) y1 s') ∧ f_Mod_clash_25 rec10 l1 l2 (nI a) (nI (sel (pb (ClP d)) (120 * a)).length) (nI (a + 1)) s1 = rec10 y1 y2 s') ∨ E (f_Mod_clash_25 rec10 l1 l2 (nI a) (nI (sel (pb (ClP d)) (120 * a)).length) (nI (a + 1)) s1) := by
      unfold f_Mod_clash_25
      refine itr2_run (N := d 4 0) (I := fun b y z s1 => z = nI b ∧ a < b ∧ J (120 * a + 2 * b) y s1) (E := fun o => (∃ (y1 y2 : Int32) (s' : Sg), (y2 = nI (a + 1) ∧ J (120 * (a + 1)) y1 s') ∧ o = rec10 y1 y2 s') ∨ E o) ?_ ?_ (d 4 0 - (a + 1)) 4096 (a + 1) _ _ s1 (by omega) (by omega) ⟨rfl, by omega, by rw [hgapA a ha], by rw [hgapA a ha]; exact hl, rfl⟩
      · rintro rec25 b y z s1 hb ⟨rfl, hab, rfl, hl, rfl⟩
        obtain ⟨m1, m2, m3, m4⟩ := hI.2.2.1.2.2.1 a ha
        obtain ⟨n1, n2, n3, n4⟩ := hI.2.2.1.2.2.1 b hb
        have pa := (hI.2.1.1.2.2.2.2.1 a ha).1
        have pb' := (hI.2.1.1.2.2.2.2.1 b hb).1
        have ga := (hI.2.1.2.1.2.1 a ha).2
        have gb := (hI.2.1.2.1.2.1 b hb).2
        have ca := h0.1.2.2.2.1 a (by omega)
        have cb := h0.1.2.2.2.1 b (by omega)
        rw [← m1, ← m4] at ca
        rw [← n1, ← n4] at cb
        rw [hcnt, if_neg (fun e => by have := (nI_leI (by omega) (by omega)).mp e; omega), if_pos (inb_nI (by omega) (by omega)), if_pos (inb_nI (by omega) (by omega)), ix_nI (by omega), ix_nI (by omega), ca.1, cb.1, ca.2.2.1, cb.2.2.1]
        have hk : ∀ x, x < 2 → (pb (ClP d) (120 * a + 2 * b + x) = true ↔ (d 21 a ≠ 0 ∧ d 21 a = d 21 b ∧ d 5 a = d 5 b) ∧ stg d (100 + 2 * a + x) ≠ 0 ∧ stg d (100 + 2 * b + x) ≠ 0) := by
          intro x hx
          obtain ⟨c1, c2, c3⟩ := Cl_at (a := a) (b := b) (x := x) (by omega) (by omega) hx
          rw [pb_iff]
          unfold ClP
          rw [c1, c2, c3]
          constructor
          · rintro ⟨-, -, g3, g4, g5, g6, g7⟩
            exact ⟨⟨g3, g4, g5⟩, g6, g7⟩
          · rintro ⟨⟨g3, g4, g5⟩, g6, g7⟩
            exact ⟨hab, hb, g3, g4, g5, g6, g7⟩
        have skip : ¬ (d 21 a ≠ 0 ∧ d 21 a = d 21 b ∧ d 5 a = d 5 b) → (∃ (y1 y2 : Int32) (s' : Sg), (y2 = nI (b + 1) ∧ a < b + 1 ∧ J (120 * a + 2 * (b + 1)) y1 s') ∧ rec25 (nI (sel (pb (ClP d)) (120 * a + 2 * b)).length) (nI b + 1) s1 = rec25 y1 y2 s') := by
          intro hx
          have hn : ∀ x, x < 2 → ¬ pb (ClP d) (120 * a + 2 * b + x) = true := fun x hx2 z => hx ((hk x hx2).mp z).1
          have eg : sel (pb (ClP d)) (120 * a + 2 * (b + 1)) = sel (pb (ClP d)) (120 * a + 2 * b) := sel_gap _ (by omega) (fun c h1 h2 => by
            obtain ⟨x, hx2, rfl⟩ : ∃ x, x < 2 ∧ c = 120 * a + 2 * b + x := ⟨c - (120 * a + 2 * b), by omega, by omega⟩
            exact hn x hx2)
          rw [← nI_succ]
          exact ⟨_, _, _, ⟨rfl, by omega, by rw [eg], by rw [eg]; exact hl, rfl⟩, rfl⟩
        by_cases x1 : d 5 a = d 5 b
        · rw [if_pos (by rw [x1]), if_pos (inb_nI (by omega) (by omega))]
          by_cases x2 : d 21 a = 0
          · rw [if_pos ((nI_l0 (by omega)).mpr x2)]
            exact Or.inl (skip (fun z => z.1 x2))
          · rw [if_neg (fun e => x2 ((nI_l0 (by omega)).mp e)), if_pos (inb_nI (by omega) (by omega)), if_pos (inb_nI (by omega) (by omega))]
            by_cases x3 : d 21 a = d 21 b
            · rw [if_pos (by rw [x3])]
              have hx : d 21 a ≠ 0 ∧ d 21 a = d 21 b ∧ d 5 a = d 5 b := ⟨x2, x3, x1⟩
              have sides : (∃ (y1 y2 : Int32) (s' : Sg), (y2 = nI (b + 1) ∧ a < b + 1 ∧ J (120 * a + 2 * (b + 1)) y1 s') ∧ f_Mod_clash_84 rec10 rec25 l1 l2 (nI a) (nI b) (nI (sel (pb (ClP d)) (120 * a + 2 * b)).length) 0 s1 = rec25 y1 y2 s') ∨ E (f_Mod_clash_84 rec10 rec25 l1 l2 (nI a) (nI b) (nI (sel (pb (ClP d)) (120 * a + 2 * b)).length) 0 s1) := by
                unfold f_Mod_clash_84
                refine itr2_run (N := 2) (I := fun x y z s1 => z = nI x ∧ J (120 * a + 2 * b + x) y s1) (E := fun o => (∃ (y1 y2 : Int32) (s' : Sg), (y2 = nI (b + 1) ∧ a < b + 1 ∧ J (120 * a + 2 * (b + 1)) y1 s') ∧ o = rec25 y1 y2 s') ∨ E o) ?_ ?_ 2 4096 0 _ 0 s1 (by omega) (by omega) ⟨nI_0.symm, rfl, hl, rfl⟩
                · rintro rec84 x y z s1 hx2 ⟨rfl, rfl, hl, rfl⟩
                  have hb1 := hI.2.2.2.2.2.1 (100 + 2 * a + x)
                  have hb2 := hI.2.2.2.2.2.1 (100 + 2 * b + x)
                  have hlen := sel_len (pb (ClP d)) (120 * a + 2 * b + x)
                  rw [if_neg (fun e => by have := (nI_leI (a := 2) (by omega) (by omega)).mp e; omega), n2p, n2p, if_pos (inb_nI (by omega) (by omega)), ix_nI (by omega), ix_nI (by omega), show s1 57 (2 * a + x) = nI (stg d (100 + 2 * a + x)) by rw [h57 _ (by omega), ← Nat.add_assoc], show s1 57 (2 * b + x) = nI (stg d (100 + 2 * b + x)) by rw [h57 _ (by omega), ← Nat.add_assoc]]
                  by_cases o1 : stg d (100 + 2 * a + x) = 0
                  · rw [if_pos ((nI_l0 (by omega)).mpr o1), ← nI_succ]
                    have hn : ¬ pb (ClP d) (120 * a + 2 * b + x) = true := fun z => ((hk x hx2).mp z).2.1 o1
                    exact Or.inl ⟨_, _, _, ⟨rfl, by rw [show 120 * a + 2 * b + (x + 1) = 120 * a + 2 * b + x + 1 by omega, sel_no hn], by rw [show 120 * a + 2 * b + (x + 1) = 120 * a + 2 * b + x + 1 by omega, sel_no hn]; exact hl, rfl⟩, rfl⟩
                  · rw [if_neg (fun e => o1 ((nI_l0 (by omega)).mp e)), if_pos (inb_nI (by omega) (by omega))]
                    by_cases o2 : stg d (100 + 2 * b + x) = 0
                    · rw [if_pos ((nI_l0 (by omega)).mpr o2), ← nI_succ]
                      have hn : ¬ pb (ClP d) (120 * a + 2 * b + x) = true := fun z => ((hk x hx2).mp z).2.2 o2
                      exact Or.inl ⟨_, _, _, ⟨rfl, by rw [show 120 * a + 2 * b + (x + 1) = 120 * a + 2 * b + x + 1 by omega, sel_no hn], by rw [show 120 * a + 2 * b + (x + 1) = 120 * a + 2 * b + x + 1 by omega, sel_no hn]; exact hl, rfl⟩, rfl⟩
                    · rw [if_neg (fun e => o2 ((nI_l0 (by omega)).mp e))]
                      have hy : pb (ClP d) (120 * a + 2 * b + x) = true := (hk x hx2).mpr ⟨hx, o1, o2⟩
                      by_cases hz : nI (sel (pb (ClP d)) (120 * a + 2 * b + x)).length = l1
                      · rw [if_pos hz]
                        have eg : (Cl d)[(sel (pb (ClP d)) (120 * a + 2 * b + x)).length]? = some (120 * a + 2 * b + x) := sel_get hy 7200 (by omega)
                        obtain ⟨c1, c2, c3⟩ := Cl_at (a := a) (b := b) (x := x) (by omega) (by omega) hx2
                        refine Or.inr (Or.inr ?_)
                        by_cases w0 : l2 = 0
                        · rw [if_pos w0]
                          exact ⟨_, _, rfl, Or.inl ⟨_, _, hz.symm, by omega, eg, Or.inl ⟨w0, by rw [c1]⟩⟩, h0, hO⟩
                        · rw [if_neg w0]
                          by_cases w1 : l2 = 1
                          · rw [if_pos w1]
                            exact ⟨_, _, rfl, Or.inl ⟨_, _, hz.symm, by omega, eg, Or.inr (Or.inl ⟨w1, by rw [c2]⟩)⟩, h0, hO⟩
                          · rw [if_neg w1]
                            by_cases w2 : l2 = 2
                            · rw [if_pos w2]
                              exact ⟨_, _, rfl, Or.inl ⟨_, _, hz.symm, by omega, eg, Or.inr (Or.inr (Or.inl ⟨w2, by rw [c3]⟩))⟩, h0, hO⟩
                            · rw [if_neg w2]
                              exact ⟨_, _, rfl, Or.inl ⟨_, _, hz.symm, by omega, eg, Or.inr (Or.inr (Or.inr ⟨w0, w1, w2, rfl⟩))⟩, h0, hO⟩
                      · rw [if_neg hz, ← nI_succ, ← nI_succ]
                        refine Or.inl ⟨_, _, _, ⟨rfl, ?_, fun j hj hj2 => ?_, rfl⟩, rfl⟩
                        · rw [show 120 * a + 2 * b + (x + 1) = 120 * a + 2 * b + x + 1 by omega, sel_yes hy, List.length_append]
                          rfl
                        · rw [show 120 * a + 2 * b + (x + 1) = 120 * a + 2 * b + x + 1 by omega, sel_yes hy, List.length_append]
                          show _ + 1 ≤ j
                          have h1 := hl j hj hj2
                          have h2 : (sel (pb (ClP d)) (120 * a + 2 * b + x)).length ≠ j := fun z => hz (by rw [z, hj])
                          omega
                · rintro rec84 y z s1 ⟨rfl, rfl, hl, rfl⟩
                  rw [if_pos (show (2 : Int32) ≤ nI 2 from (nI_leI (a := 2) (by omega) (by omega)).mpr (Nat.le_refl _)), ← nI_succ]
                  exact Or.inl ⟨_, _, _, ⟨rfl, by omega, rfl, hl, rfl⟩, rfl⟩
              rcases sides with ⟨y1, y2, s', hs, e⟩ | hs
              · exact Or.inl ⟨y1, y2, s', hs, e⟩
              · exact Or.inr (Or.inr hs)
            · rw [if_neg (fun e => x3 (nI_inj (by omega) (by omega) e))]
              exact Or.inl (skip (fun z => x3 z.2.1))
        · rw [if_neg (fun e => x1 (nI_inj (by omega) (by omega) e))]
          exact Or.inl (skip (fun z => x1 z.2.2))
      · rintro rec25 y z s1 ⟨rfl, hab, rfl, hl, rfl⟩
        rw [hcnt, if_pos ((nI_leI (by omega) (by omega)).mpr (Nat.le_refl _)), ← nI_succ]
        exact Or.inl ⟨_, _, _, ⟨rfl, by rw [hgapB a ha], by rw [hgapB a ha]; exact hl, rfl⟩, rfl⟩
    rcases inner with ⟨y1, y2, s', hs, e⟩ | hs
    · exact Or.inl ⟨y1, y2, s', hs, e⟩
    · exact Or.inr hs
  · rintro rec10 y z s1 ⟨rfl, rfl, hl, rfl⟩
    rw [hcnt, if_pos ((nI_leI (by omega) (by omega)).mpr (Nat.le_refl _))]
    refine ⟨_, _, rfl, Or.inr ⟨fun j c e hj hc => ?_, rfl⟩, h0, hO⟩
    have hlt := (List.getElem?_eq_some_iff.mp hc).1
    unfold Cl at hlt
    rw [hgapC] at hlt
    have := hl j e hj
    omega
end Rw
