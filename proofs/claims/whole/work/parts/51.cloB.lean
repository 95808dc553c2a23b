section CloB
variable {c : Nat} {s s1 : Sg} {q q1 : QS} {d : Dt}
theorem F_fT120 (hG : DG d) (hD : DC d s1) (hR : CRep c s1 q1) {p x now k : Nat} (hp : p < d 0 0) (hx : x < 2) (hk : k < 60) (hn : now < 1000) (b : Int32) (rec : Int32 → Sg → Ro) :
    f_Clo_followThere_120 c rec (nI p) (nI x) (nI now) (nI k) b s1 = if b ≠ 0 ∨ (d 3 p = 0 ∧ q1.1 (100 + 2 * k + (1 - x)) ≠ 0 ∧ q1.1 (100 + 2 * k + (1 - x)) ≤ now) then bnd (f_Clo_bringOn c (nI k) (nI x) (nI (now + 1)) s1) (fun _ s2 => rec (nI (k + 1)) s2) else rec (nI (k + 1)) s1 := by
  have hP := hG.1.1
  have h3b := hG.2.1.1 p hp
  unfold f_Clo_followThere_120 f_Clo_followThere_157 f_Clo_followThere_158 f_Clo_followThere_170
  rw [if_pos (inb_nI (by omega) (by omega)), ix_nI (by omega), hD.2.1 p hp]
  by_cases h3 : d 3 p = 0
  · rw [if_pos ((nI_l0 (by omega)).mpr h3), n1s hx, F_onStage hR hk (by omega), bnd_some, F_isBy hR.lt (by omega), bnd_some]
    by_cases hy : q1.1 (100 + 2 * k + (1 - x)) ≠ 0 ∧ q1.1 (100 + 2 * k + (1 - x)) ≤ now
    · rw [if_pos hy]
      by_cases hb : b = 0
      · simp [hb, h3, hy, nI_succ]
      · simp [hb, nI_succ]
    · rw [if_neg hy]
      by_cases hb : b = 0
      · have hneg : ¬ (b ≠ 0 ∨ (d 3 p = 0 ∧ q1.1 (100 + 2 * k + (1 - x)) ≠ 0 ∧ q1.1 (100 + 2 * k + (1 - x)) ≤ now)) := fun z => z.elim (fun h => h hb) (fun h => hy h.2)
        rw [if_neg hneg]
        simp [hb, nI_succ]
      · simp [hb, nI_succ]
  · rw [if_neg (fun e => h3 ((nI_l0 (by omega)).mp e))]
    by_cases hb : b = 0
    · simp [hb, h3, nI_succ]
    · simp [hb, nI_succ]
theorem F_fT67 (hc : 23 ≤ c) (hG : DG d) {p x now : Nat} (hp : p < d 0 0) (hx : x < 2) (hn : now < 1000) {B0 : Nat → Prop} (hD : DC d s) (hR : CRep c s1 q1) (hq : QOk q1) (hE : Ext (now + 1) B0 q q1) (hF : Fr c s s1) :
    CStp c (now + 1) (fun it => B0 it ∨ ∃ t, t < d 4 0 ∧ d 5 t = p ∧ ((x = 0 ∧ d 7 t = 1 ∧ d 2 p = 1) ∨ (d 3 p = 0 ∧ q.1 (100 + 2 * t + (1 - x)) ≠ 0 ∧ q.1 (100 + 2 * t + (1 - x)) ≤ now)) ∧ it = 100 + 2 * t + x) s q (f_Clo_followThere_67 c (nI p) (nI x) (nI now) 0 s1) := by
  have hFn := hG.1.2.1
  have hPn := hG.1.1
  unfold f_Clo_followThere_67
  refine itr1_run (N := d 4 0) (I := fun k y s1 => y = nI k ∧ ∃ q1, CRep c s1 q1 ∧ QOk q1 ∧ Ext (now + 1) (fun it => B0 it ∨ ∃ t, t < k ∧ d 5 t = p ∧ ((x = 0 ∧ d 7 t = 1 ∧ d 2 p = 1) ∨ (d 3 p = 0 ∧ q.1 (100 + 2 * t + (1 - x)) ≠ 0 ∧ q.1 (100 + 2 * t + (1 - x)) ≤ now)) ∧ it = 100 + 2 * t + x) q q1 ∧ Fr c s s1) (E := CStp c (now + 1) _ s q) ?_ ?_ (d 4 0) 4096 0 0 s1 (by omega) (by omega) ⟨nI_0.symm, q1, hR, hq, hE.start, hF⟩
  · rintro rec k y s1 hk ⟨rfl, q1, hR, hq, hE, hF⟩
    have hD1 := hD.clo hc hF
    have h5 := hG.1.2.2.2.2.1 k hk
    refine Or.inl ?_
    rw [hD1.1.1.2.2.1, if_neg (fun e => by have := (nI_leI (by omega) (by omega)).mp e; omega), if_pos (inb_nI (by omega) (by omega)), ix_nI (by omega), (hD1.2.2.1 k hk).1]
    by_cases h1 : d 5 k = p
    · rw [if_pos (by rw [h1])]
      have main : ∀ b : Int32, (b ≠ 0 ↔ (x = 0 ∧ d 7 k = 1 ∧ d 2 p = 1)) → ∃ (y1 : Int32) (s' : Sg), (y1 = nI (k + 1) ∧ ∃ q1, CRep c s' q1 ∧ QOk q1 ∧ Ext (now + 1) (fun it => B0 it ∨ ∃ t, t < k + 1 ∧ d 5 t = p ∧ ((x = 0 ∧ d 7 t = 1 ∧ d 2 p = 1) ∨ (d 3 p = 0 ∧ q.1 (100 + 2 * t + (1 - x)) ≠ 0 ∧ q.1 (100 + 2 * t + (1 - x)) ≤ now)) ∧ it = 100 + 2 * t + x) q q1 ∧ Fr c s s') ∧ f_Clo_followThere_120 c rec (nI p) (nI x) (nI now) (nI k) b s1 = rec y1 s' := by
        intro b hb
        rw [F_fT120 hG hD1 hR hp hx (by omega) hn]
        have hby := hE.byn (100 + 2 * k + (1 - x))
        by_cases hcond : b ≠ 0 ∨ (d 3 p = 0 ∧ q1.1 (100 + 2 * k + (1 - x)) ≠ 0 ∧ q1.1 (100 + 2 * k + (1 - x)) ≤ now)
        · rw [if_pos hcond]
          obtain ⟨s2, q2, e, g1, g2, g3, g4⟩ := F_bringOn hR hq (a := now + 1) (f := k) (x := x) (by omega) hx (by omega) (by omega)
          rw [e, bnd_some]
          refine ⟨_, s2, ⟨rfl, q2, g1, g2, hE.snoc (by omega) (g3.congr (fun it => ⟨fun h => ⟨h1, ?_, h⟩, fun h => h.2.2⟩)), hF.trans g4⟩, rfl⟩
          rcases hcond with h | ⟨h, h'⟩
          · exact Or.inl (hb.mp h)
          · exact Or.inr ⟨h, hby.mp h'⟩
        · rw [if_neg hcond]
          refine ⟨_, s1, ⟨rfl, q1, hR, hq, hE.skip (fun it h => hcond ?_), hF⟩, rfl⟩
          rcases h.2.1 with h | ⟨h, h'⟩
          · exact Or.inl (hb.mpr h)
          · exact Or.inr ⟨h, hby.mpr h'⟩
      by_cases hx0 : x = 0
      · rw [if_pos (by rw [hx0]; rfl), F_rootd hG hD1 hk, bnd_some, h1]
        by_cases hr : d 7 k = 1 ∧ d 2 p = 1
        · rw [if_pos hr, if_neg (by decide)]
          exact main 1 ⟨fun _ => ⟨hx0, hr⟩, fun _ => by decide⟩
        · rw [if_neg hr, if_pos rfl]
          unfold f_Clo_followThere_119
          exact main 0 ⟨fun h => absurd rfl h, fun h => absurd h.2 hr⟩
      · rw [if_neg (fun e => hx0 ((nI_l0 (by omega)).mp e))]
        unfold f_Clo_followThere_119
        exact main 0 ⟨fun h => absurd rfl h, fun h => absurd h.1 hx0⟩
    · rw [if_neg (fun e => h1 ((nI_eq (by omega) (by omega)).mp e)), ← nI_succ]
      exact ⟨_, s1, ⟨rfl, q1, hR, hq, hE.skip (fun it h => h1 h.1), hF⟩, rfl⟩
  · rintro rec y s1 ⟨rfl, q1, hR, hq, hE, hF⟩
    have hD1 := hD.clo hc hF
    rw [hD1.1.1.2.2.1, if_pos ((nI_leI (by omega) (by omega)).mpr (Nat.le_refl _))]
    exact ⟨s1, q1, rfl, hR, hq, hE, hF⟩
theorem F_followThere (hc : 23 ≤ c) (hG : DG d) {p x now : Nat} (hp : p < d 0 0) (hx : x < 2) (hn : now < 1000) (hD : DC d s) (hR : CRep c s q) (hq : QOk q) : CStp c (now + 1) (BT d q.1 now p x) s q (f_Clo_followThere c (nI p) (nI x) (nI now) s) := by
  have hUn := hG.1.2.2.1
  have hPn := hG.1.1
  unfold f_Clo_followThere f_Clo_followThere_3
  refine itr1_run (N := d 8 0) (I := fun k y s1 => y = nI k ∧ ∃ q1, CRep c s1 q1 ∧ QOk q1 ∧ Ext (now + 1) (fun it => False ∨ ∃ u, u < k ∧ d 9 u = p ∧ d 13 u = 0 ∧ d 14 u = 1 ∧ it = 20 + 2 * u + x) q q1 ∧ Fr c s s1) (E := CStp c (now + 1) (BT d q.1 now p x) s q) ?_ ?_ (d 8 0) 4096 0 0 s (by omega) (by omega) ⟨nI_0.symm, q, hR, hq, (Ext.none _ q).start, Fr.refl c s⟩
  · rintro rec k y s1 hk ⟨rfl, q1, hR, hq, hE, hF⟩
    have hD1 := hD.clo hc hF
    have h9 := hG.1.2.2.2.2.2.1 k hk
    have h13 := (hG.2.1.2.2 k hk).2.2
    refine Or.inl ?_
    rw [hD1.1.1.2.2.2.1, if_neg (fun e => by have := (nI_leI (by omega) (by omega)).mp e; omega), if_pos (inb_nI (by omega) (by omega)), ix_nI (by omega), (hD1.2.2.2.1 k hk).1, ← nI_succ, ← nI_succ]
    by_cases h1 : d 9 k = p
    · rw [if_pos (by rw [h1]), if_pos (inb_nI (by omega) (by omega)), (hD1.2.2.2.1 k hk).2.2.2.2.1]
      by_cases h2 : d 13 k = 0
      · rw [if_pos ((nI_l0 (by omega)).mpr h2)]
        obtain ⟨s2, q2, e, g1, g2, g3, g4⟩ := F_bringLive hG hD1 hR hq (a := now + 1) hk hx (by omega) (by omega)
        rw [e, bnd_some]
        exact ⟨_, s2, ⟨rfl, q2, g1, g2, hE.snoc (by omega) (g3.congr (fun it => ⟨fun h => ⟨h1, h2, h⟩, fun h => h.2.2⟩)), hF.trans g4⟩, rfl⟩
      · rw [if_neg (fun e => h2 ((nI_l0 (by omega)).mp e))]
        exact ⟨_, s1, ⟨rfl, q1, hR, hq, hE.skip (fun it h => h2 h.2.1), hF⟩, rfl⟩
    · rw [if_neg (fun e => h1 ((nI_eq (by omega) (by omega)).mp e))]
      exact ⟨_, s1, ⟨rfl, q1, hR, hq, hE.skip (fun it h => h1 h.1), hF⟩, rfl⟩
  · rintro rec y s1 ⟨rfl, q1, hR, hq, hE, hF⟩
    have hD1 := hD.clo hc hF
    rw [hD1.1.1.2.2.2.1, if_pos ((nI_leI (by omega) (by omega)).mpr (Nat.le_refl _))]
    obtain ⟨s2, q2, e, g1, g2, g3, g4⟩ := F_fT67 hc hG hp hx hn hD hR hq hE hF
    refine ⟨s2, q2, e, g1, g2, g3.congr (fun it => ?_), g4⟩
    unfold BT
    simp
end CloB
