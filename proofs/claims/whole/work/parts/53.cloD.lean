theorem F_bit_t {x : Int32} {n : Nat} (hn : n < 32) (h : bt x n = true) (s : Sg) : f_FU_bit x (nI n) s = some (1, s) := by rw [F_bit x hn, if_pos h]
theorem F_bit_f {x : Int32} {n : Nat} (hn : n < 32) (h : bt x n = false) (s : Sg) : f_FU_bit x (nI n) s = some (0, s) := by rw [F_bit x hn, h]; rfl
section CloD
variable {c : Nat} {s s1 : Sg} {q q1 : QS} {d : Dt}
theorem n_side {it : Nat} (h : it < 1000) : nI it - nI it / 2 * 2 = nI (it % 2) := pk_rem (d := 2) (by omega) (by omega) (by omega)
theorem n_half {it : Nat} (h : it < 1000) : nI it / 2 = nI (it / 2) := pk_div (d := 2) (by omega) (by omega) (by omega)
theorem F_follow (hc : 23 ≤ c) (hG : DG d) {it now : Nat} (hi : it < 220) (hV : Vd d it) (hnow : q.1 it = now) (hn : now < 1000) (hD : DC d s) (hR : CRep c s q) (hq : QOk q) : CStp c (now + 1) (BF d q.1 now it) s q (f_Clo_follow c (nI it) s) := by
  have hFn := hG.1.2.1
  have hUn := hG.1.2.2.1
  have hPn := hG.1.1
  unfold f_Clo_follow
  rw [if_pos (inb_nI hi (by omega)), ix_nI (by omega), hR.1 it hi, hnow, n_side (by omega)]
  by_cases h20 : it < 20
  · rw [if_neg (fun e => by have := (nI_leI (a := 20) (by omega) (by omega)).mp e; omega), n_half (by omega)]
    refine CStp.ret ?_
    have hp : it / 2 < d 0 0 := by
      rcases hV with h | h | h
      · exact h.2
      · omega
      · omega
    obtain ⟨s2, q2, e, g1, g2, g3, g4⟩ := F_followThere hc hG hp (show it % 2 < 2 by omega) hn hD hR hq
    refine ⟨s2, q2, e, g1, g2, g3.congr (fun y => ⟨fun h => Or.inl ⟨h20, h⟩, ?_⟩), g4⟩
    rintro (h | h | h)
    · exact h.2
    · omega
    · omega
  · rw [if_pos (show (20 : Int32) ≤ nI it from (nI_leI (a := 20) (by omega) (by omega)).mpr (by omega))]
    by_cases h100 : it < 100
    · rw [if_neg (fun e => by have := (nI_leI (a := 100) (by omega) (by omega)).mp e; omega), show nI it - 20 = nI (it - 20) from pk_sub (b := 20) (by omega), n_half (by omega)]
      refine CStp.ret ?_
      have hu : (it - 20) / 2 < d 8 0 := by
        rcases hV with h | h | h
        · omega
        · exact h.2.2.1
        · omega
      obtain ⟨s2, q2, e, g1, g2, g3, g4⟩ := F_followLive hc hG hu (show it % 2 < 2 by omega) hn hD hR hq
      refine ⟨s2, q2, e, g1, g2, g3.congr (fun y => ⟨fun h => Or.inr (Or.inl ⟨by omega, h100, h⟩), ?_⟩), g4⟩
      rintro (h | h | h)
      · omega
      · exact h.2.2
      · omega
    · rw [if_pos (show (100 : Int32) ≤ nI it from (nI_leI (a := 100) (by omega) (by omega)).mpr (by omega)), show nI it - 100 = nI (it - 100) from pk_sub (b := 100) (by omega), n_half (by omega)]
      refine CStp.ret ?_
      have ht : (it - 100) / 2 < d 4 0 := by
        rcases hV with h | h | h
        · omega
        · omega
        · exact h.2.2
      obtain ⟨s2, q2, e, g1, g2, g3, g4⟩ := F_followOn hc hG ht (show it % 2 < 2 by omega) hn hD hR hq
      refine ⟨s2, q2, e, g1, g2, g3.congr (fun y => ⟨fun h => Or.inr (Or.inr ⟨by omega, h⟩), ?_⟩), g4⟩
      rintro (h | h | h)
      · omega
      · omega
      · exact h.2
/-- how closing ends -/
def CEnd (c : Nat) (d : Dt) (s : Sg) (o : Ro) : Prop := ∃ s' q', o = some (0, s') ∧ CRep c s' q' ∧ FX d q'.1 ∧ QOk q' ∧ (∀ x y, x ≤ y → y < q'.2.2 → q'.1 (q'.2.1 x) ≤ q'.1 (q'.2.1 y)) ∧ (∀ x, q'.1 x ≤ 221) ∧ Fr c s s'
theorem F_close69 (hc : 23 ≤ c) (hG : DG d) (hD : DC d s) (hR : CRep c s1 q1) (hI : QInv (Dv d) 0 q1) (hb : ∀ x, q1.1 x ≤ 1) (hF : Fr c s s1) : CEnd c d s (f_Clo_close_69 c 0 s1) := by
  unfold f_Clo_close_69
  have fin : ∀ {s1 : Sg} {q1 : QS} {k : Nat}, k ≤ 220 → CRep c s1 q1 → QInv (Dv d) k q1 → (∀ x, q1.1 x ≤ k + 1) → Fr c s s1 → q1.2.2 ≤ k → CEnd c d s (some (0, s1)) := by
    intro s1 q1 k hk hR hI hb hF hle
    have e : k = q1.2.2 := Nat.le_antisymm hI.2.1 hle
    subst e
    exact ⟨s1, q1, rfl, hR, QInv.done (Dv_mono d) hI, hI.1, hI.2.2.1, fun x => by have := hb x; omega, hF⟩
  refine itr1_run (N := 220) (I := fun k y s1 => y = nI k ∧ ∃ q1, CRep c s1 q1 ∧ QInv (Dv d) k q1 ∧ (∀ x, q1.1 x ≤ k + 1) ∧ Fr c s s1) (E := CEnd c d s) ?_ ?_ 220 4096 0 0 s1 (by omega) (by omega) ⟨nI_0.symm, q1, hR, hI, hb, hF⟩
  · rintro rec k y s1 hk ⟨rfl, q1, hR, hI, hb, hF⟩
    have hD1 := hD.clo hc hF
    have hle := hI.1.le
    rw [hR.2.2.2]
    by_cases h1 : q1.2.2 ≤ k
    · rw [if_pos ((nI_leI (by omega) (by omega)).mpr h1)]
      exact Or.inr (fin (by omega) hR hI hb hF h1)
    · refine Or.inl ?_
      have hkq : k < q1.2.2 := by omega
      rw [if_neg (fun e => h1 ((nI_leI (by omega) (by omega)).mp e)), if_neg (fun e => by have := (nI_leI (a := 220) (by omega) (by omega)).mp e; omega), if_pos (inb_nI hk (by omega)), ix_nI (by omega), hR.2.2.1 k hkq, ← nI_succ]
      have hit := hI.1.2.2 k hkq
      have hst := hb (q1.2.1 k)
      have hV : Vd d (q1.2.1 k) := by
        obtain ⟨m, hm⟩ : ∃ m, q1.1 (q1.2.1 k) = m + 1 := ⟨q1.1 (q1.2.1 k) - 1, by omega⟩
        exact Dv_valid hG.1 (hI.2.2.2.2.1 _ m hm)
      obtain ⟨s2, q2, e, g1, g2, g3, g4⟩ := F_follow hc hG hit.1 hV rfl (by omega) hD1 hR hI.1
      rw [e, bnd_some]
      refine ⟨_, s2, ⟨rfl, q2, g1, ?_, fun x => ?_, hF.trans g4⟩, rfl⟩
      · exact QInv.step (Dv_mono d) hI hkq rfl g3 g2 (fun it h => by
          have h1 := BF_sound hV rfl hit.2 h
          rcases Dv_valid hG.1 h1 with h | h | h <;> omega) (fun it h => BF_sound hV rfl hit.2 h) (fun P hP it h => BF_compl hG.1 rfl hit.2 hP h)
      · by_cases hx : q1.1 x = 0 ∧ BF d q1.1 (q1.1 (q1.2.1 k)) (q1.2.1 k) x
        · rw [(g3.1 x).1 hx]
          omega
        · rw [(g3.1 x).2 hx]
          have := hb x
          omega
  · rintro rec y s1 ⟨rfl, q1, hR, hI, hb, hF⟩
    have hle := hI.1.le
    rw [hR.2.2.2, if_pos ((nI_leI (by omega) (by omega)).mpr hle)]
    exact fin (by omega) hR hI hb hF hle
theorem F_close29 (hc : 23 ≤ c) (hG : DG d) (hD : DC d s) (hR : CRep c s1 (fun _ => 0, fun _ => 0, 0)) (hF : Fr c s s1) : CEnd c d s (f_Clo_close_29 c 0 s1) := by
  have hPn := hG.1.1
  have hq0 : QOk (fun _ => 0, fun _ => 0, 0) := ⟨(cnt_zero 220 (fun _ _ => rfl)).symm, fun x h => absurd rfl h, fun j h => absurd h (Nat.not_lt_zero _)⟩
  unfold f_Clo_close_29
  refine itr1_run (N := d 0 0) (I := fun k y s1 => y = nI k ∧ ∃ q1, CRep c s1 q1 ∧ QOk q1 ∧ Ext 1 (fun it => False ∨ ∃ p, p < k ∧ d 1 p = 1 ∧ it = 2 * p + 0) (fun _ => 0, fun _ => 0, 0) q1 ∧ Fr c s s1) (E := CEnd c d s) ?_ ?_ (d 0 0) 4096 0 0 s1 (by omega) (by omega) ⟨nI_0.symm, _, hR, hq0, (Ext.none _ _).start, hF⟩
  · rintro rec k y s1 hk ⟨rfl, q1, hR, hq, hE, hF⟩
    have hD1 := hD.clo hc hF
    refine Or.inl ?_
    rw [hD1.1.1.2.1, if_neg (fun e => by have := (nI_leI (by omega) (by omega)).mp e; omega)]
    have hbt := (hD1.1.2.1 k (by omega)).1
    by_cases h1 : d 1 k = 1
    · rw [F_bit_t (by omega) (by rw [hbt]; simp [h1]), bnd_some, if_neg (by decide)]
      obtain ⟨s2, q2, e, g1, g2, g3, g4⟩ := F_bringThere hR hq (a := 1) (p := k) (x := 0) (by omega) (by omega) (by omega) (by omega)
      have e' : f_Clo_bringThere c (nI k) 0 1 s1 = some (0, s2) := e
      rw [e', bnd_some, ← nI_succ]
      exact ⟨_, s2, ⟨rfl, q2, g1, g2, hE.snoc (by omega) (g3.congr (fun it => ⟨fun h => ⟨h1, h⟩, fun h => h.2⟩)), hF.trans g4⟩, rfl⟩
    · rw [F_bit_f (by omega) (by rw [hbt]; simp [h1]), bnd_some, if_pos rfl, ← nI_succ]
      exact ⟨_, s1, ⟨rfl, q1, hR, hq, hE.skip (fun it h => h1 h.1), hF⟩, rfl⟩
  · rintro rec y s1 ⟨rfl, q1, hR, hq, hE, hF⟩
    have hD1 := hD.clo hc hF
    rw [hD1.1.1.2.1, if_pos ((nI_leI (by omega) (by omega)).mpr (Nat.le_refl _))]
    have hE1 : Ext 1 (fun it => ∃ p, p < d 0 0 ∧ d 1 p = 1 ∧ it = 2 * p) (fun _ => 0, fun _ => 0, 0) q1 := hE.congr (fun it => by simp)
    refine F_close69 hc hG hD hR (QInv.init (fun _ => rfl) rfl hE1 hq (fun P it h => Or.inl h) (fun it h => ?_) (Dv_mono d)) (fun x => ?_) hF
    · rcases h with h | ⟨_, _, h1, h2, h3, h4, h5, h6⟩ | ⟨_, _, h1, h2, h3, h4⟩ | ⟨_, h1, h2, h3, h4, h5⟩ | ⟨_, _, _, h1, h2, h3, h4, h5, h6, h7⟩ | ⟨_, _, h1, h2, h3, h4, h5⟩ | ⟨_, _, h1, h2, h3, h4, h5, h6⟩ | ⟨_, _, h1, h2, h3, h4, h5, h6, h7⟩ | ⟨_, _, h1, h2, h3, h4, h5, h6⟩ | ⟨_, _, h1, h2, h3, h4, h5, h6⟩
      · exact h
      · exact h5.elim
      · exact h3.elim
      · exact h4.elim
      · exact h6.elim
      · exact h4.elim
      · exact h5.elim
      · exact h5.elim
      · exact h4.elim
      · exact h5.elim
    · by_cases hx : ∃ p, p < d 0 0 ∧ d 1 p = 1 ∧ x = 2 * p
      · rw [(hE1.1 x).1 ⟨rfl, hx⟩]
        exact Nat.le_refl _
      · rw [(hE1.1 x).2 (fun z => hx z.2)]
        exact Nat.zero_le _
theorem F_close (hc : 23 ≤ c) (hG : DG d) (hD : DC d s) : CEnd c d s (f_Clo_close c s) := by
  unfold f_Clo_close f_Clo_close_2
  refine itr1_run (N := 220) (I := fun k y s1 => y = nI k ∧ (∀ x, x < k → s1 (c + 1) x = 0) ∧ Fr c s s1) (E := CEnd c d s) ?_ ?_ 220 4096 0 0 s (by omega) (by omega) ⟨nI_0.symm, fun x h => absurd h (Nat.not_lt_zero _), Fr.refl c s⟩
  · rintro rec k y s1 hk ⟨rfl, hz, hF⟩
    refine Or.inl ?_
    rw [if_neg (fun e => by have := (nI_leI (a := 220) (by omega) (by omega)).mp e; omega), if_pos (inb_nI hk (by omega)), ix_nI (by omega), ← nI_succ]
    refine ⟨_, _, ⟨rfl, fun x hx => ?_, fun c' e1 e2 e3 => ?_⟩, rfl⟩
    · rw [wr_at]
      by_cases e : x = k
      · simp [e]
      · simp [e, hz x (by omega)]
    · rw [wr_c _ _ _ e2]
      exact hF c' e1 e2 e3
  · rintro rec y s1 ⟨rfl, hz, hF⟩
    rw [if_pos (show (220 : Int32) ≤ nI 220 from (nI_leI (a := 220) (by omega) (by omega)).mpr (Nat.le_refl _))]
    refine F_close29 hc hG hD ⟨fun x hx => ?_, fun x => by simp, fun j hj => absurd hj (Nat.not_lt_zero _), ?_⟩ (fun c' e1 e2 e3 => ?_)
    · rw [wr_c _ _ _ (by omega), hz x hx]
      rfl
    · rw [wr_s]
      rfl
    · rw [wr_c _ _ _ e1]
      exact hF c' e1 e2 e3
/-- the greatest stage -/
def Gst (f : Nat → Nat) (M : Nat) : Prop := (∀ x, f x ≤ M) ∧ (M = 0 ∨ ∃ x, f x = M)
theorem Gst.uniq {f : Nat → Nat} {M N : Nat} (h1 : Gst f M) (h2 : Gst f N) : M = N := by
  obtain ⟨a1, a2⟩ := h1
  obtain ⟨b1, b2⟩ := h2
  have h3 : M ≤ N := by
    rcases a2 with h | ⟨x, h⟩
    · omega
    · rw [← h]; exact b1 x
  have h4 : N ≤ M := by
    rcases b2 with h | ⟨x, h⟩
    · omega
    · rw [← h]; exact a1 x
  omega
theorem F_greatest (hR : CRep c s q) (hq : QOk q) (hm : ∀ x y, x ≤ y → y < q.2.2 → q.1 (q.2.1 x) ≤ q.1 (q.2.1 y)) : ∃ M, f_Clo_greatestStage c s = some (nI M, s) ∧ Gst q.1 M := by
  have hle := hq.le
  unfold f_Clo_greatestStage
  rw [hR.2.2.2]
  by_cases h0 : q.2.2 = 0
  · refine ⟨0, by rw [if_pos ((nI_l0 (by omega)).mpr h0)]; rfl, fun x => ?_, Or.inl rfl⟩
    rcases Nat.eq_zero_or_pos (q.1 x) with h | h
    · omega
    · obtain ⟨j, hj, -⟩ := hq.2.1 x (by omega)
      omega
  · have hit := hq.2.2 (q.2.2 - 1) (by omega)
    refine ⟨q.1 (q.2.1 (q.2.2 - 1)), ?_, fun x => ?_, Or.inr ⟨_, rfl⟩⟩
    · rw [if_neg (fun e => h0 ((nI_l0 (by omega)).mp e)), show nI q.2.2 - 1 = nI (q.2.2 - 1) from pk_sub (b := 1) (by omega), if_pos (inb_nI (by omega) (by omega)), ix_nI (by omega), hR.2.2.1 _ (by omega), if_pos (inb_nI hit.1 (by omega)), ix_nI (by omega), hR.1 _ hit.1]
    · rcases Nat.eq_zero_or_pos (q.1 x) with h | h
      · omega
      · obtain ⟨j, hj, rfl⟩ := hq.2.1 x (by omega)
        exact hm j (q.2.2 - 1) (by omega) (by omega)
end CloD
