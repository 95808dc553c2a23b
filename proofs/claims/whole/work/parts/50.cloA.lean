/-! closing, the developers' side: the cells c, c + 1, c + 2 hold a state of closing -/
def CRep (c : Nat) (s : Sg) (q : QS) : Prop := (∀ x, x < 220 → s (c + 1) x = nI (q.1 x)) ∧ (∀ x, q.1 x ≤ 1000) ∧ (∀ j, j < q.2.2 → s (c + 2) j = nI (q.2.1 j)) ∧ s c 3 = nI q.2.2
def Fr (c : Nat) (s s' : Sg) : Prop := ∀ c', c' ≠ c → c' ≠ c + 1 → c' ≠ c + 2 → s' c' = s c'
theorem Fr.refl (c : Nat) (s : Sg) : Fr c s s := fun _ _ _ _ => rfl
theorem Fr.trans {c : Nat} {s t u : Sg} (h1 : Fr c s t) (h2 : Fr c t u) : Fr c s u := fun c' a b e => (h2 c' a b e).trans (h1 c' a b e)
theorem DC.clo {c : Nat} (hc : 23 ≤ c) {d : Dt} {s s' : Sg} (hF : Fr c s s') (h : DC d s) : DC d s' := h.fr (fun c' h1 h2 => hF c' (by omega) (by omega) (by omega))
theorem Ext.snoc {a : Nat} (ha : a ≠ 0) {B0 : Nat → Prop} {P : Nat → Nat → Prop} {k : Nat} {q q1 q2 : QS} (h1 : Ext a (fun it => B0 it ∨ ∃ u, u < k ∧ P u it) q q1) (h2 : Ext a (P k) q1 q2) : Ext a (fun it => B0 it ∨ ∃ u, u < k + 1 ∧ P u it) q q2 := by
  refine (h1.trans ha h2).congr (fun it => ⟨?_, ?_⟩)
  · rintro ((h | ⟨u, hu, h⟩) | h)
    · exact Or.inl h
    · exact Or.inr ⟨u, by omega, h⟩
    · exact Or.inr ⟨k, by omega, h⟩
  · rintro (h | ⟨u, hu, h⟩)
    · exact Or.inl (Or.inl h)
    · by_cases e : u = k
      · subst e; exact Or.inr h
      · exact Or.inl (Or.inr ⟨u, by omega, h⟩)
theorem Ext.skip {a : Nat} {B0 : Nat → Prop} {P : Nat → Nat → Prop} {k : Nat} {q q1 : QS} (h1 : Ext a (fun it => B0 it ∨ ∃ u, u < k ∧ P u it) q q1) (h2 : ∀ it, ¬ P k it) : Ext a (fun it => B0 it ∨ ∃ u, u < k + 1 ∧ P u it) q q1 := by
  refine h1.congr (fun it => ⟨?_, ?_⟩)
  · rintro (h | ⟨u, hu, h⟩)
    · exact Or.inl h
    · exact Or.inr ⟨u, by omega, h⟩
  · rintro (h | ⟨u, hu, h⟩)
    · exact Or.inl h
    · by_cases e : u = k
      · subst e; exact absurd h (h2 it)
      · exact Or.inr ⟨u, by omega, h⟩
theorem Ext.start {a : Nat} {B0 : Nat → Prop} {P : Nat → Nat → Prop} {q q1 : QS} (h1 : Ext a B0 q q1) : Ext a (fun it => B0 it ∨ ∃ u, u < 0 ∧ P u it) q q1 := by
  refine h1.congr (fun it => ⟨Or.inl, ?_⟩)
  rintro (h | ⟨u, hu, h⟩)
  · exact h
  · omega
theorem n2p (p x : Nat) : 2 * nI p + nI x = nI (2 * p + x) := by
  rw [show (2 : Int32) = nI 2 from rfl, pk_mul, nI_add]
theorem n20p (p x : Nat) : 20 + 2 * nI p + nI x = nI (20 + 2 * p + x) := by
  rw [show (2 : Int32) = nI 2 from rfl, show (20 : Int32) = nI 20 from rfl, pk_mul, nI_add, nI_add]
theorem n100p (p x : Nat) : 100 + 2 * nI p + nI x = nI (100 + 2 * p + x) := by
  rw [show (2 : Int32) = nI 2 from rfl, show (100 : Int32) = nI 100 from rfl, pk_mul, nI_add, nI_add]
theorem n1s {x : Nat} (h : x < 2) : 1 - nI x = nI (1 - x) := by
  rw [show (1 : Int32) = nI 1 from rfl, pk_sub (by omega)]
/-- a part of closing: it brings what is in B, at the stage a -/
def CStp (c a : Nat) (B : Nat → Prop) (s : Sg) (q : QS) (o : Ro) : Prop := ∃ s' q', o = some (0, s') ∧ CRep c s' q' ∧ QOk q' ∧ Ext a B q q' ∧ Fr c s s'
section Clo
variable {c a : Nat} {s : Sg} {q : QS} {d : Dt}
theorem F_bring (hR : CRep c s q) (hq : QOk q) {it : Nat} (hi : it < 220) (ha : a ≤ 1000) (ha0 : a ≠ 0) : CStp c a (fun x => x = it) s q (f_Clo_bring c (nI it) (nI a) s) := by
  obtain ⟨h1, h2, h3, h4⟩ := hR
  refine ⟨if q.1 it = 0 then wr (wr (wr s (c + 1) it (nI a)) (c + 2) q.2.2 (nI it)) c 3 (nI (q.2.2 + 1)) else s, bringQ q it a, ?_, ?_, bringQ_ok hq hi ha0, bringQ_ext hi, ?_⟩
  · unfold f_Clo_bring
    rw [if_pos (inb_nI hi (by omega)), ix_nI (by omega), h1 it hi]
    have hb := h2 it
    by_cases h0 : q.1 it = 0
    · have hl := hq.lt hi h0
      rw [if_pos h0, if_pos (by rw [h0]; rfl), h4, if_neg (fun e => by have := (nI_leI (a := 220) (by omega) (by omega)).mp e; omega), if_pos (inb_nI hi (by omega)), if_pos (inb_nI hl (by omega)), ix_nI (by omega), nI_succ]
    · rw [if_neg h0, if_neg (fun e => h0 ((nI_l0 (by omega)).mp e))]
  · unfold bringQ
    by_cases h0 : q.1 it = 0
    · rw [if_pos h0, if_pos h0]
      refine ⟨fun x hx => ?_, fun x => ?_, fun j hj => ?_, ?_⟩
      · show _ = nI (updN q.1 it a x)
        unfold updN
        by_cases e : x = it
        · subst e; simp [wr_at]
        · simp [wr_at, e, h1 x hx]
      · show updN q.1 it a x ≤ 1000
        unfold updN
        have := h2 x
        split <;> omega
      · show _ = nI (updN q.2.1 q.2.2 it j)
        have hj : j < q.2.2 + 1 := hj
        unfold updN
        by_cases e : j = q.2.2
        · subst e; simp [wr_at]
        · simp [wr_at, e, h3 j (by omega)]
      · simp [wr_at]
    · rw [if_neg h0, if_neg h0]
      exact ⟨h1, h2, h3, h4⟩
  · by_cases h0 : q.1 it = 0
    · rw [if_pos h0]
      intro c' e1 e2 e3
      rw [wr_c _ _ _ e1, wr_c _ _ _ e3, wr_c _ _ _ e2]
    · rw [if_neg h0]
      exact Fr.refl c s
theorem CStp.ret {B : Nat → Prop} {o : Ro} (h : CStp c a B s q o) : CStp c a B s q (bnd o (fun _ s1 => some (0, s1))) := by
  obtain ⟨s', q', rfl, h⟩ := h
  exact ⟨s', q', rfl, h⟩
theorem F_bringThere (hR : CRep c s q) (hq : QOk q) {p x : Nat} (hp : p < 10) (hx : x < 2) (ha : a ≤ 1000) (ha0 : a ≠ 0) : CStp c a (fun it => it = 2 * p + x) s q (f_Clo_bringThere c (nI p) (nI x) (nI a) s) := by
  unfold f_Clo_bringThere
  rw [n2p]
  exact (F_bring hR hq (by omega) ha ha0).ret
theorem F_bringOn (hR : CRep c s q) (hq : QOk q) {f x : Nat} (hf : f < 60) (hx : x < 2) (ha : a ≤ 1000) (ha0 : a ≠ 0) : CStp c a (fun it => it = 100 + 2 * f + x) s q (f_Clo_bringOn c (nI f) (nI x) (nI a) s) := by
  unfold f_Clo_bringOn
  rw [n100p]
  exact (F_bring hR hq (by omega) ha ha0).ret
theorem F_bringLive (hG : DG d) (hD : DC d s) (hR : CRep c s q) (hq : QOk q) {u x : Nat} (hu : u < d 8 0) (hx : x < 2) (ha : a ≤ 1000) (ha0 : a ≠ 0) : CStp c a (fun it => d 14 u = 1 ∧ it = 20 + 2 * u + x) s q (f_Clo_bringLive c (nI u) (nI x) (nI a) s) := by
  have hU := hG.1.2.2.1
  unfold f_Clo_bringLive
  rw [F_counts hG hD hu, bnd_some]
  by_cases h1 : d 14 u = 1
  · rw [if_pos h1, if_neg (by decide), n20p]
    obtain ⟨s', q', e, g1, g2, g3, g4⟩ := F_bring hR hq (it := 20 + 2 * u + x) (by omega) ha ha0
    rw [e]
    exact ⟨s', q', rfl, g1, g2, g3.congr (fun it => ⟨fun h => ⟨h1, h⟩, fun h => h.2⟩), g4⟩
  · rw [if_neg h1, if_pos rfl]
    exact ⟨s, q, rfl, hR, hq, Ext.refl a q (fun it h => absurd h.1 h1), Fr.refl c s⟩
theorem F_isBy {x y : Nat} (hx : x < 2147483648) (hy : y < 2147483648) (s : Sg) : f_Clo_isBy (nI x) (nI y) s = some (if x ≠ 0 ∧ x ≤ y then 1 else 0, s) := by
  unfold f_Clo_isBy
  by_cases h0 : x = 0
  · rw [if_pos (by rw [h0]; rfl), if_neg (fun z => z.1 h0)]
  · rw [if_neg (fun e => h0 ((nI_l0 hx).mp e))]
    by_cases h1 : x ≤ y
    · rw [if_neg (fun e => by have := (nI_ltI hy hx).mp e; omega), if_pos ⟨h0, h1⟩]
    · rw [if_pos ((nI_ltI hy hx).mpr (by omega)), if_neg (fun z => h1 z.2)]
theorem F_onStage (hR : CRep c s q) {f x : Nat} (hf : f < 60) (hx : x < 2) : f_Clo_onStage c (nI f) (nI x) s = some (nI (q.1 (100 + 2 * f + x)), s) := by
  unfold f_Clo_onStage
  rw [n100p, if_pos (inb_nI (by omega) (by omega)), ix_nI (by omega), hR.1 _ (by omega)]
theorem F_liveStage (hR : CRep c s q) {u x : Nat} (hu : u < 40) (hx : x < 2) : f_Clo_liveStage c (nI u) (nI x) s = some (nI (q.1 (20 + 2 * u + x)), s) := by
  unfold f_Clo_liveStage
  rw [n20p, if_pos (inb_nI (by omega) (by omega)), ix_nI (by omega), hR.1 _ (by omega)]
theorem F_thereStage (hR : CRep c s q) {p x : Nat} (hp : p < 10) (hx : x < 2) : f_Clo_thereStage c (nI p) (nI x) s = some (nI (q.1 (2 * p + x)), s) := by
  unfold f_Clo_thereStage
  rw [n2p, if_pos (inb_nI (by omega) (by omega)), ix_nI (by omega), hR.1 _ (by omega)]
theorem CRep.lt {x : Nat} (hR : CRep c s q) : q.1 x < 2147483648 := by
  have := hR.2.1 x
  omega
end Clo
