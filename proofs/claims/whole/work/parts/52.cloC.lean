section CloC
variable {c : Nat} {s s1 : Sg} {q q1 : QS} {d : Dt}
theorem F_fL96 (hc : 23 ≤ c) (hG : DG d) {u x now w : Nat} (hu : u < d 8 0) (hx : x < 2) (hw : w < 2) (hn : now < 1000) {B0 : Nat → Prop} (hD : DC d s) (hR : CRep c s1 q1) (hq : QOk q1) (hE : Ext (now + 1) B0 q q1) (hF : Fr c s s1) :
    CStp c (now + 1) (fun it => B0 it ∨ ∃ r, r < d 16 0 ∧ d 18 r = 3 ∧ d 19 r = u ∧ q.1 (100 + 2 * d 17 r + x) ≠ 0 ∧ q.1 (100 + 2 * d 17 r + x) ≤ now ∧ it = 100 + 2 * d 20 r + w) s q (f_Clo_followLive_96 c (nI u) (nI x) (nI now) (nI w) 0 s1) := by
  have hFn := hG.1.2.1
  have hUn := hG.1.2.2.1
  have hTn := hG.1.2.2.2.1
  unfold f_Clo_followLive_96
  refine itr1_run (N := d 16 0) (I := fun k y s1 => y = nI k ∧ ∃ q1, CRep c s1 q1 ∧ QOk q1 ∧ Ext (now + 1) (fun it => B0 it ∨ ∃ r, r < k ∧ d 18 r = 3 ∧ d 19 r = u ∧ q.1 (100 + 2 * d 17 r + x) ≠ 0 ∧ q.1 (100 + 2 * d 17 r + x) ≤ now ∧ it = 100 + 2 * d 20 r + w) q q1 ∧ Fr c s s1) (E := CStp c (now + 1) _ s q) ?_ ?_ (d 16 0) 4096 0 0 s1 (by omega) (by omega) ⟨nI_0.symm, q1, hR, hq, hE.start, hF⟩
  · rintro rec k y s1 hk ⟨rfl, q1, hR, hq, hE, hF⟩
    have hD1 := hD.clo hc hF
    have ht := hG.1.2.2.2.2.2.2 k hk
    have hr := hD1.2.2.2.2 k hk
    refine Or.inl ?_
    rw [hD1.1.1.2.2.2.2, if_neg (fun e => by have := (nI_leI (by omega) (by omega)).mp e; omega), if_pos (inb_nI (by omega) (by omega)), ix_nI (by omega), hr.2.1, ← nI_succ, ← nI_succ]
    by_cases h1 : d 18 k = 3
    · have hus := ht.2.2.1 (by omega)
      have htg := ht.2.2.2 (by omega)
      rw [if_pos ((nI_l3 (by omega)).mpr h1), if_pos (inb_nI (by omega) (by omega)), hr.2.2.1 (by omega)]
      by_cases h2 : d 19 k = u
      · rw [if_pos (by rw [h2]), if_pos (inb_nI (by omega) (by omega)), hr.1, F_onStage hR (by omega) hx, bnd_some, F_isBy hR.lt (by omega), bnd_some]
        have hby := hE.byn (100 + 2 * d 17 k + x)
        by_cases h3 : q1.1 (100 + 2 * d 17 k + x) ≠ 0 ∧ q1.1 (100 + 2 * d 17 k + x) ≤ now
        · rw [if_pos h3, if_neg (by decide), if_pos (inb_nI (by omega) (by omega)), hr.2.2.2.2.1 (by omega)]
          obtain ⟨s2, q2, e, g1, g2, g3, g4⟩ := F_bringOn hR hq (a := now + 1) (f := d 20 k) (x := w) (by omega) hw (by omega) (by omega)
          rw [e, bnd_some]
          exact ⟨_, s2, ⟨rfl, q2, g1, g2, hE.snoc (by omega) (g3.congr (fun it => ⟨fun h => ⟨h1, h2, (hby.mp h3).1, (hby.mp h3).2, h⟩, fun h => h.2.2.2.2⟩)), hF.trans g4⟩, rfl⟩
        · rw [if_neg h3, if_pos rfl]
          exact ⟨_, s1, ⟨rfl, q1, hR, hq, hE.skip (fun it h => h3 (hby.mpr ⟨h.2.2.1, h.2.2.2.1⟩)), hF⟩, rfl⟩
      · rw [if_neg (fun e => h2 ((nI_eq (by omega) (by omega)).mp e))]
        exact ⟨_, s1, ⟨rfl, q1, hR, hq, hE.skip (fun it h => h2 h.2.1), hF⟩, rfl⟩
    · rw [if_neg (fun e => h1 ((nI_l3 (by omega)).mp e))]
      exact ⟨_, s1, ⟨rfl, q1, hR, hq, hE.skip (fun it h => h1 h.1), hF⟩, rfl⟩
  · rintro rec y s1 ⟨rfl, q1, hR, hq, hE, hF⟩
    have hD1 := hD.clo hc hF
    rw [hD1.1.1.2.2.2.2, if_pos ((nI_leI (by omega) (by omega)).mpr (Nat.le_refl _))]
    exact ⟨s1, q1, rfl, hR, hq, hE, hF⟩
theorem F_fL38 (hc : 23 ≤ c) (hG : DG d) {u x now w : Nat} (hu : u < d 8 0) (hx : x < 2) (hw : w < 2) (hn : now < 1000) {B0 : Nat → Prop} (hD : DC d s) (hR : CRep c s1 q1) (hq : QOk q1) (hE : Ext (now + 1) B0 q q1) (hF : Fr c s s1) :
    CStp c (now + 1) (fun it => (B0 it ∨ ∃ t, t < d 4 0 ∧ d 5 t = d 10 u ∧ (d 15 (32 * u + d 6 t) = 1 ∨ (d 11 u = 1 ∧ d 7 t = 1)) ∧ it = 100 + 2 * t + w) ∨ ∃ r, r < d 16 0 ∧ d 18 r = 3 ∧ d 19 r = u ∧ q.1 (100 + 2 * d 17 r + x) ≠ 0 ∧ q.1 (100 + 2 * d 17 r + x) ≤ now ∧ it = 100 + 2 * d 20 r + w) s q (f_Clo_followLive_38 c (nI u) (nI x) (nI now) (nI w) 0 s1) := by
  have hFn := hG.1.2.1
  have hUn := hG.1.2.2.1
  unfold f_Clo_followLive_38
  refine itr1_run (N := d 4 0) (I := fun k y s1 => y = nI k ∧ ∃ q1, CRep c s1 q1 ∧ QOk q1 ∧ Ext (now + 1) (fun it => B0 it ∨ ∃ t, t < k ∧ d 5 t = d 10 u ∧ (d 15 (32 * u + d 6 t) = 1 ∨ (d 11 u = 1 ∧ d 7 t = 1)) ∧ it = 100 + 2 * t + w) q q1 ∧ Fr c s s1) (E := CStp c (now + 1) _ s q) ?_ ?_ (d 4 0) 4096 0 0 s1 (by omega) (by omega) ⟨nI_0.symm, q1, hR, hq, hE.start, hF⟩
  · rintro rec k y s1 hk ⟨rfl, q1, hR, hq, hE, hF⟩
    have hD1 := hD.clo hc hF
    refine Or.inl ?_
    rw [hD1.1.1.2.2.1, if_neg (fun e => by have := (nI_leI (by omega) (by omega)).mp e; omega), F_asked hG hD1 hu hk, bnd_some]
    obtain ⟨s2, q2, e, g1, g2, g3, g4⟩ := F_bringOn hR hq (a := now + 1) (f := k) (x := w) (by omega) hw (by omega) (by omega)
    unfold f_Clo_followLive_76
    by_cases h1 : d 5 k = d 10 u ∧ d 15 (32 * u + d 6 k) = 1
    · rw [if_pos h1, if_neg (by decide), ← nI_succ, e, bnd_some, ← nI_succ]
      exact ⟨_, s2, ⟨rfl, q2, g1, g2, hE.snoc (by omega) (g3.congr (fun it => ⟨fun h => ⟨h1.1, Or.inl h1.2, h⟩, fun h => h.2.2⟩)), hF.trans g4⟩, rfl⟩
    · rw [if_neg h1, if_pos rfl, F_dflt hG hD1 hu hk, bnd_some]
      by_cases h2 : d 5 k = d 10 u ∧ d 11 u = 1 ∧ d 7 k = 1
      · rw [if_pos h2, if_neg (by decide), ← nI_succ, e, bnd_some, ← nI_succ]
        exact ⟨_, s2, ⟨rfl, q2, g1, g2, hE.snoc (by omega) (g3.congr (fun it => ⟨fun h => ⟨h2.1, Or.inr h2.2, h⟩, fun h => h.2.2⟩)), hF.trans g4⟩, rfl⟩
      · rw [if_neg h2, if_pos rfl, ← nI_succ]
        refine ⟨_, s1, ⟨rfl, q1, hR, hq, hE.skip (fun it h => ?_), hF⟩, rfl⟩
        rcases h.2.1 with g | g
        · exact h1 ⟨h.1, g⟩
        · exact h2 ⟨h.1, g⟩
  · rintro rec y s1 ⟨rfl, q1, hR, hq, hE, hF⟩
    have hD1 := hD.clo hc hF
    rw [hD1.1.1.2.2.1, if_pos ((nI_leI (by omega) (by omega)).mpr (Nat.le_refl _))]
    exact F_fL96 hc hG hu hx hw hn hD hR hq hE hF
theorem F_followLive (hc : 23 ≤ c) (hG : DG d) {u x now : Nat} (hu : u < d 8 0) (hx : x < 2) (hn : now < 1000) (hD : DC d s) (hR : CRep c s q) (hq : QOk q) : CStp c (now + 1) (BL d q.1 now u x) s q (f_Clo_followLive c (nI u) (nI x) (nI now) s) := by
  have hUn := hG.1.2.2.1
  have hPn := hG.1.1
  have h10 := hG.1.2.2.2.2.2.1 u hu
  have hw : far d u x < 2 := far_lt hx
  unfold f_Clo_followLive
  rw [F_far hG hD hu, bnd_some, if_pos (inb_nI (by omega) (by omega)), ix_nI (by omega), (hD.2.2.2.1 u hu).2.1, ← nI_succ]
  obtain ⟨s2, q2, e, g1, g2, g3, g4⟩ := F_bringThere hR hq (a := now + 1) (p := d 10 u) (x := far d u x) (by omega) hw (by omega) (by omega)
  rw [e, bnd_some]
  obtain ⟨s3, q3, e3, k1, k2, k3, k4⟩ := F_fL38 hc hG hu hx hw hn hD g1 g2 g3 g4
  refine ⟨s3, q3, e3, k1, k2, k3.congr (fun it => ?_), k4⟩
  unfold BL
  exact or_assoc
theorem F_fTu119 (hc : 23 ≤ c) (hG : DG d) {x now tg u : Nat} (hu : u < d 8 0) (ht : tg < d 4 0) (hx : x < 2) (hn : now < 1000) {B0 : Nat → Prop} (hD : DC d s) (hR : CRep c s1 q1) (hq : QOk q1) (hE : Ext (now + 1) B0 q q1) (hF : Fr c s s1) :
    CStp c (now + 1) (fun it => B0 it ∨ it = 100 + 2 * tg + far d u x) s q (f_Clo_followTurn_119 c (nI x) (nI now) (nI tg) (nI u) s1) := by
  have hFn := hG.1.2.1
  unfold f_Clo_followTurn_119
  rw [F_far hG (hD.clo hc hF) hu, bnd_some, ← nI_succ]
  obtain ⟨s2, q2, e, g1, g2, g3, g4⟩ := F_bringOn hR hq (a := now + 1) (f := tg) (x := far d u x) (by omega) (far_lt hx) (by omega) (by omega)
  rw [e]
  exact ⟨s2, q2, rfl, g1, g2, hE.trans (by omega) g3, hF.trans g4⟩
theorem F_followTurn (hc : 23 ≤ c) (hG : DG d) {r x now : Nat} (hr : r < d 16 0) (hx : x < 2) (hn : now < 1000) (hD : DC d s) (hR : CRep c s q) (hq : QOk q) : CStp c (now + 1) (BR d q.1 now x r) s q (f_Clo_followTurn c (nI r) (nI x) (nI now) s) := by
  have hFn := hG.1.2.1
  have hUn := hG.1.2.2.1
  have hTn := hG.1.2.2.2.1
  have ht := hG.1.2.2.2.2.2.2 r hr
  have hd := hD.2.2.2.2 r hr
  unfold f_Clo_followTurn
  rw [if_pos (inb_nI (by omega) (by omega)), if_pos (inb_nI (by omega) (by omega)), ix_nI (by omega), hd.2.1]
  by_cases h0 : d 18 r = 0
  · rw [if_pos ((nI_l0 (by omega)).mpr h0), hd.2.2.2.2.1 (by omega), ← nI_succ]
    have htg := ht.2.2.2 (by omega)
    refine CStp.ret ?_
    obtain ⟨s2, q2, e, g1, g2, g3, g4⟩ := F_bringOn hR hq (a := now + 1) (f := d 20 r) (x := x) (by omega) hx (by omega) (by omega)
    exact ⟨s2, q2, e, g1, g2, g3.congr (fun it => ⟨fun h => Or.inl ⟨h0, h⟩, fun h => h.elim (fun h => h.2) (fun h => absurd h0 h.1)⟩), g4⟩
  · have hus := ht.2.2.1 h0
    rw [if_neg (fun e => h0 ((nI_l0 (by omega)).mp e)), if_pos (inb_nI (by omega) (by omega)), hd.2.2.1 h0, F_counts hG hD hus, bnd_some]
    by_cases h14 : d 14 (d 19 r) = 1
    · rw [if_pos h14, if_neg (by decide)]
      have step : (d 18 r = 1 ∨ d 18 r = 2) → CStp c (now + 1) (BR d q.1 now x r) s q (f_Clo_followTurn_83 c (nI x) (nI now) (nI (d 18 r)) (s 20 r) (nI (d 19 r)) s) := by
        intro hk
        unfold f_Clo_followTurn_83
        rw [← nI_succ]
        obtain ⟨s2, q2, e, g1, g2, g3, g4⟩ := F_bringLive hG hD hR hq (a := now + 1) hus hx (by omega) (by omega)
        rw [e, bnd_some]
        unfold f_Clo_followTurn_93
        by_cases h2 : d 18 r = 2
        · rw [if_pos ((nI_l2 (by omega)).mpr h2), hd.2.2.2.2.1 (by omega)]
          obtain ⟨s3, q3, e3, k1, k2, k3, k4⟩ := F_fTu119 hc hG hus (ht.2.2.2 (by omega)) hx hn hD g1 g2 g3 g4
          refine ⟨s3, q3, e3, k1, k2, k3.congr (fun it => ⟨?_, ?_⟩), k4⟩
          · rintro (h | h)
            · exact Or.inr ⟨h0, h14, Or.inl ⟨Or.inr h2, h.2⟩⟩
            · exact Or.inr ⟨h0, h14, Or.inr ⟨Or.inl h2, h⟩⟩
          · rintro (h | ⟨-, -, h | h⟩)
            · exact absurd h.1 h0
            · exact Or.inl ⟨h14, h.2⟩
            · exact Or.inr h.2
        · rw [if_neg (fun e => h2 ((nI_l2 (by omega)).mp e)), if_neg (fun e => by have := (nI_l3 (by omega)).mp e; omega)]
          refine ⟨s2, q2, rfl, g1, g2, g3.congr (fun it => ⟨fun h => Or.inr ⟨h0, h14, Or.inl ⟨by omega, h.2⟩⟩, ?_⟩), g4⟩
          rintro (h | ⟨-, -, h | h⟩)
          · exact absurd h.1 h0
          · exact ⟨h14, h.2⟩
          · rcases h.1 with h | h <;> omega
      by_cases h1 : d 18 r = 1
      · rw [if_pos ((nI_l1 (by omega)).mpr h1)]
        exact step (Or.inl h1)
      · rw [if_neg (fun e => h1 ((nI_l1 (by omega)).mp e))]
        by_cases h2 : d 18 r = 2
        · rw [if_pos ((nI_l2 (by omega)).mpr h2)]
          exact step (Or.inr h2)
        · rw [if_neg (fun e => h2 ((nI_l2 (by omega)).mp e))]
          have h3 : d 18 r = 3 := by have := ht.2.1; omega
          unfold f_Clo_followTurn_93
          rw [if_neg (fun e => h2 ((nI_l2 (by omega)).mp e)), if_pos ((nI_l3 (by omega)).mpr h3), F_liveStage hR (by omega) hx, bnd_some, F_isBy hR.lt (by omega), bnd_some]
          by_cases hy : q.1 (20 + 2 * d 19 r + x) ≠ 0 ∧ q.1 (20 + 2 * d 19 r + x) ≤ now
          · rw [if_pos hy, if_neg (by decide), hd.2.2.2.2.1 (by omega)]
            obtain ⟨s3, q3, e3, k1, k2, k3, k4⟩ := F_fTu119 hc hG hus (ht.2.2.2 (by omega)) hx hn hD hR hq (Ext.none (now + 1) q) (Fr.refl c s)
            refine ⟨s3, q3, e3, k1, k2, k3.congr (fun it => ⟨?_, ?_⟩), k4⟩
            · rintro (h | h)
              · exact h.elim
              · exact Or.inr ⟨h0, h14, Or.inr ⟨Or.inr ⟨h3, hy⟩, h⟩⟩
            · rintro (h | ⟨-, -, h | h⟩)
              · exact absurd h.1 h0
              · rcases h.1 with h | h <;> omega
              · exact Or.inr h.2
          · rw [if_neg hy, if_pos rfl]
            refine ⟨s, q, rfl, hR, hq, Ext.refl _ q (fun it h => ?_), Fr.refl c s⟩
            rcases h with h | ⟨-, -, h | h⟩
            · exact absurd h.1 h0
            · rcases h.1 with h | h <;> omega
            · rcases h.1 with h | h
              · omega
              · exact absurd h.2 hy
    · rw [if_neg h14, if_pos rfl]
      refine ⟨s, q, rfl, hR, hq, Ext.refl _ q (fun it h => ?_), Fr.refl c s⟩
      rcases h with h | h
      · exact absurd h.1 h0
      · exact absurd h.2.1 h14
theorem BR_congr {f g : Nat → Nat} {now x r it : Nat} (h : ∀ y, (f y ≠ 0 ∧ f y ≤ now) ↔ (g y ≠ 0 ∧ g y ≤ now)) : BR d f now x r it ↔ BR d g now x r it := by
  unfold BR
  rw [h]
theorem F_fO60 (hc : 23 ≤ c) (hG : DG d) {t x now : Nat} (ht : t < d 4 0) (hx : x < 2) (hn : now < 1000) {B0 : Nat → Prop} (hD : DC d s) (hR : CRep c s1 q1) (hq : QOk q1) (hE : Ext (now + 1) B0 q q1) (hF : Fr c s s1) :
    CStp c (now + 1) (fun it => B0 it ∨ ∃ r, r < d 16 0 ∧ d 17 r = t ∧ BR d q.1 now x r it) s q (f_Clo_followOn_60 c (nI t) (nI x) (nI now) 0 s1) := by
  have hFn := hG.1.2.1
  have hTn := hG.1.2.2.2.1
  unfold f_Clo_followOn_60
  refine itr1_run (N := d 16 0) (I := fun k y s1 => y = nI k ∧ ∃ q1, CRep c s1 q1 ∧ QOk q1 ∧ Ext (now + 1) (fun it => B0 it ∨ ∃ r, r < k ∧ d 17 r = t ∧ BR d q.1 now x r it) q q1 ∧ Fr c s s1) (E := CStp c (now + 1) _ s q) ?_ ?_ (d 16 0) 4096 0 0 s1 (by omega) (by omega) ⟨nI_0.symm, q1, hR, hq, hE.start, hF⟩
  · rintro rec k y s1 hk ⟨rfl, q1, hR, hq, hE, hF⟩
    have hD1 := hD.clo hc hF
    have hr := hD1.2.2.2.2 k hk
    have htt := hG.1.2.2.2.2.2.2 k hk
    refine Or.inl ?_
    rw [hD1.1.1.2.2.2.2, if_neg (fun e => by have := (nI_leI (by omega) (by omega)).mp e; omega), if_pos (inb_nI (by omega) (by omega)), ix_nI (by omega), hr.1, ← nI_succ]
    by_cases h1 : d 17 k = t
    · rw [if_pos (by rw [h1])]
      obtain ⟨s2, q2, e, g1, g2, g3, g4⟩ := F_followTurn hc hG hk hx hn hD1 hR hq
      rw [e, bnd_some]
      exact ⟨_, s2, ⟨rfl, q2, g1, g2, hE.snoc (by omega) (g3.congr (fun it => ⟨fun h => ⟨h1, (BR_congr (fun y => hE.byn y)).mp h⟩, fun h => (BR_congr (fun y => hE.byn y)).mpr h.2⟩)), hF.trans g4⟩, rfl⟩
    · rw [if_neg (fun e => h1 ((nI_eq (by omega) (by omega)).mp e))]
      exact ⟨_, s1, ⟨rfl, q1, hR, hq, hE.skip (fun it h => h1 h.1), hF⟩, rfl⟩
  · rintro rec y s1 ⟨rfl, q1, hR, hq, hE, hF⟩
    have hD1 := hD.clo hc hF
    rw [hD1.1.1.2.2.2.2, if_pos ((nI_leI (by omega) (by omega)).mpr (Nat.le_refl _))]
    exact ⟨s1, q1, rfl, hR, hq, hE, hF⟩
theorem F_followOn (hc : 23 ≤ c) (hG : DG d) {t x now : Nat} (ht : t < d 4 0) (hx : x < 2) (hn : now < 1000) (hD : DC d s) (hR : CRep c s q) (hq : QOk q) : CStp c (now + 1) (BO d q.1 now t x) s q (f_Clo_followOn c (nI t) (nI x) (nI now) s) := by
  have hFn := hG.1.2.1
  have hPn := hG.1.1
  have h5 := (hG.1.2.2.2.2.1 t ht).1
  have h3b := hG.2.1.1 _ h5
  unfold f_Clo_followOn
  rw [if_pos (inb_nI (by omega) (by omega)), ix_nI (by omega), (hD.2.2.1 t ht).1, if_pos (inb_nI (by omega) (by omega)), ix_nI (by omega), hD.2.1 _ h5]
  by_cases h3 : d 3 (d 5 t) = 0
  · rw [if_pos ((nI_l0 (by omega)).mpr h3), n1s hx, F_thereStage hR (by omega) (by omega), bnd_some, F_isBy hR.lt (by omega), bnd_some]
    by_cases hy : q.1 (2 * d 5 t + (1 - x)) ≠ 0 ∧ q.1 (2 * d 5 t + (1 - x)) ≤ now
    · rw [if_pos hy, if_neg (by decide), ← nI_succ]
      obtain ⟨s2, q2, e, g1, g2, g3, g4⟩ := F_bringOn hR hq (a := now + 1) (f := t) (x := 1 - x) (by omega) (by omega) (by omega) (by omega)
      rw [e, bnd_some]
      obtain ⟨s3, q3, e3, k1, k2, k3, k4⟩ := F_fO60 hc hG ht hx hn hD g1 g2 g3 g4
      refine ⟨s3, q3, e3, k1, k2, k3.congr (fun it => ⟨?_, ?_⟩), k4⟩
      · rintro (h | h)
        · exact Or.inl ⟨h3, hy.1, hy.2, h⟩
        · exact Or.inr h
      · rintro (h | h)
        · exact Or.inl h.2.2.2
        · exact Or.inr h
    · rw [if_neg hy, if_pos rfl]
      obtain ⟨s3, q3, e3, k1, k2, k3, k4⟩ := F_fO60 hc hG ht hx hn hD hR hq (Ext.none (now + 1) q) (Fr.refl c s)
      refine ⟨s3, q3, e3, k1, k2, k3.congr (fun it => ⟨?_, ?_⟩), k4⟩
      · rintro (h | h)
        · exact h.elim
        · exact Or.inr h
      · rintro (h | h)
        · exact absurd ⟨h.2.1, h.2.2.1⟩ hy
        · exact Or.inr h
  · rw [if_neg (fun e => h3 ((nI_l0 (by omega)).mp e))]
    obtain ⟨s3, q3, e3, k1, k2, k3, k4⟩ := F_fO60 hc hG ht hx hn hD hR hq (Ext.none (now + 1) q) (Fr.refl c s)
    refine ⟨s3, q3, e3, k1, k2, k3.congr (fun it => ⟨?_, ?_⟩), k4⟩
    · rintro (h | h)
      · exact h.elim
      · exact Or.inr h
    · rintro (h | h)
      · exact absurd h.1 h3
      · exact Or.inr h
end CloC
