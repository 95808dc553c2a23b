theorem cnt_mono {f g : Nat → Nat} : ∀ n, (∀ i, i < n → f i ≠ 0 → g i ≠ 0) → cnt f n ≤ cnt g n
  | 0, _ => Nat.le_refl _
  | n + 1, h => by
    have ih := cnt_mono n (fun i hi => h i (by omega))
    have hn := h n (by omega)
    simp only [cnt]
    by_cases h1 : f n = 0
    · rw [if_pos h1]; split <;> omega
    · rw [if_neg h1, if_neg (hn h1)]; omega
theorem cnt_strict {f g : Nat → Nat} {k : Nat} (hf : f k = 0) (hg : g k ≠ 0) : ∀ n, k < n → (∀ i, i < n → f i ≠ 0 → g i ≠ 0) → cnt f n + 1 ≤ cnt g n
  | 0, hk, _ => by omega
  | n + 1, hk, h => by
    have hn := h n (by omega)
    simp only [cnt]
    by_cases e : k = n
    · subst e
      have := cnt_mono k (fun i hi => h i (by omega))
      rw [if_pos hf, if_neg hg]
      omega
    · have ih := cnt_strict hf hg n (by omega) (fun i hi => h i (by omega))
      by_cases h1 : f n = 0
      · rw [if_pos h1]; split <;> omega
      · rw [if_neg h1, if_neg (hn h1)]; omega
section Re
variable {e : Dt} {s s1 : Sg} {st : Nat → Nat}
theorem M_comesOn (hG : DG e) (h : ER e s) (hM : MRep st s) (hL : ∀ u y, u < e 8 0 → y < 2 → st (20 + 2 * u + y) ≠ 0 → e 14 u = 1) {f x r : Nat} (hf : f < e 4 0) (hx : x < 2) (hr : r ≤ 1000) :
    ∃ s', Gf s s' ∧ HB (Dv e (fun y => 1 ≤ st y ∧ st y < r) (100 + 2 * f + x)) s' (f_Mod_comesOn (nI f) (nI x) (nI r) s) := by
  obtain ⟨s', e1, g1, g2⟩ := M_gather hG h hM hL hf hx hr
  have hlen := Rs_len e (fun y => 1 ≤ st y ∧ st y < r) f x
  refine ⟨s', g2, ?_⟩
  unfold f_Mod_comesOn
  rw [e1, bnd_some, g1.1]
  by_cases h0 : (sel (pb (RsP e (fun y => 1 ≤ st y ∧ st y < r) f x)) 896).length = 0
  · rw [if_pos (show nI _ ≤ (0 : Int32) from (nI_leI (b := 0) (by omega) (by omega)).mpr (by omega))]
    refine HB.no (fun z => ?_) rfl
    obtain ⟨k, n, hk, hn, hz⟩ := Dv_Rs hG.1 hf hx z
    have hm : 128 * k + n ∈ sel (pb (RsP e (fun y => 1 ≤ st y ∧ st y < r) f x)) 896 := sel_mem.mpr ⟨by omega, pb_iff.mpr ((RsP_at k hn).mpr hz)⟩
    rw [List.eq_nil_of_length_eq_zero h0] at hm
    cases hm
  · rw [if_neg (show ¬ nI _ ≤ (0 : Int32) from fun z => h0 (by have := (nI_leI (b := 0) (by omega) (by omega)).mp z; omega))]
    refine HB.yes ?_ rfl
    have hpos : 0 < (sel (pb (RsP e (fun y => 1 ≤ st y ∧ st y < r) f x)) 896).length := by omega
    obtain ⟨c, hc⟩ : ∃ c, c ∈ sel (pb (RsP e (fun y => 1 ≤ st y ∧ st y < r) f x)) 896 := ⟨_, List.getElem_mem hpos⟩
    have hz : RsP e (fun y => 1 ≤ st y ∧ st y < r) f x c := pb_iff.mp (sel_mem.mp hc).2
    unfold RsP at hz
    exact Rs_Dv hf hx hz
/-- within a round r: the items below c have been looked at -/
def SF (e : Dt) (st0 : Nat → Nat) (r c : Nat) (st : Nat → Nat) : Prop := ∀ it, (st0 it = 0 ∧ it < c ∧ Dv e (fun y => 1 ≤ st0 y ∧ st0 y < r) it → st it = r) ∧ (¬ (st0 it = 0 ∧ it < c ∧ Dv e (fun y => 1 ≤ st0 y ∧ st0 y < r) it) → st it = st0 it)
def Nw (e : Dt) (st0 : Nat → Nat) (r c : Nat) : Prop := ∃ it, it < c ∧ st0 it = 0 ∧ Dv e (fun y => 1 ≤ st0 y ∧ st0 y < r) it
variable {st0 : Nat → Nat} {r c : Nat}
theorem SF.pr (h : SF e st0 r c st) (y : Nat) : (1 ≤ st y ∧ st y < r) ↔ (1 ≤ st0 y ∧ st0 y < r) := by
  by_cases hy : st0 y = 0 ∧ y < c ∧ Dv e (fun y => 1 ≤ st0 y ∧ st0 y < r) y
  · rw [(h y).1 hy]
    omega
  · rw [(h y).2 hy]
theorem SF.dv (h : SF e st0 r c st) (it : Nat) : Dv e (fun y => 1 ≤ st y ∧ st y < r) it ↔ Dv e (fun y => 1 ≤ st0 y ∧ st0 y < r) it :=
  ⟨Dv_mono e _ _ it (fun y hy => (h.pr y).mp hy), Dv_mono e _ _ it (fun y hy => (h.pr y).mpr hy)⟩
theorem SF.gap {c' : Nat} (h : SF e st0 r c st) (hc : c ≤ c') (hn : ∀ it, c ≤ it → it < c' → ¬ Vd e it) (hd : DOk e) : SF e st0 r c' st := fun it => ⟨fun hz => (h it).1 ⟨hz.1, by
    rcases Nat.lt_or_ge it c with g | g
    · exact g
    · exact absurd (Dv_valid hd hz.2.2) (hn it g hz.2.1), hz.2.2⟩, fun hz => (h it).2 (fun z => hz ⟨z.1, by omega, z.2.2⟩)⟩
theorem Nw.gap {c' : Nat} (hc : c ≤ c') (hn : ∀ it, c ≤ it → it < c' → ¬ Vd e it) (hd : DOk e) : Nw e st0 r c ↔ Nw e st0 r c' := by
  constructor
  · rintro ⟨it, h1, h2⟩
    exact ⟨it, by omega, h2⟩
  · rintro ⟨it, h1, h2, h3⟩
    refine ⟨it, ?_, h2, h3⟩
    rcases Nat.lt_or_ge it c with g | g
    · exact g
    · exact absurd (Dv_valid hd h3) (hn it g h1)
theorem SF.skip (h : SF e st0 r c st) (hn : ¬ (st0 c = 0 ∧ Dv e (fun y => 1 ≤ st0 y ∧ st0 y < r) c)) : SF e st0 r (c + 1) st := fun it => ⟨fun hz => (h it).1 ⟨hz.1, by
    by_cases g : it = c
    · subst g; exact absurd ⟨hz.1, hz.2.2⟩ hn
    · omega, hz.2.2⟩, fun hz => (h it).2 (fun z => hz ⟨z.1, by omega, z.2.2⟩)⟩
theorem SF.take (h : SF e st0 r c st) (hy : st0 c = 0 ∧ Dv e (fun y => 1 ≤ st0 y ∧ st0 y < r) c) : SF e st0 r (c + 1) (updN st c r) := fun it => by
  by_cases g : it = c
  · subst g
    exact ⟨fun _ => updN_s _ _ _, fun hz => absurd ⟨hy.1, by omega, hy.2⟩ hz⟩
  · rw [updN_n _ _ g]
    exact ⟨fun hz => (h it).1 ⟨hz.1, by omega, hz.2.2⟩, fun hz => (h it).2 (fun z => hz ⟨z.1, by omega, z.2.2⟩)⟩
theorem SF.here (h : SF e st0 r c st) : st c = st0 c := (h c).2 (fun z => absurd z.2.1 (Nat.lt_irrefl _))
theorem Nw.skip (hn : ¬ (st0 c = 0 ∧ Dv e (fun y => 1 ≤ st0 y ∧ st0 y < r) c)) : Nw e st0 r c ↔ Nw e st0 r (c + 1) := by
  constructor
  · rintro ⟨it, h1, h2⟩
    exact ⟨it, by omega, h2⟩
  · rintro ⟨it, h1, h2⟩
    by_cases g : it = c
    · subst g; exact absurd h2 hn
    · exact ⟨it, by omega, h2⟩
theorem SF.valid (h : SF e st0 r c st) (hd : DOk e) (hv : ∀ it, st0 it ≠ 0 → Vd e it) {it : Nat} (hi : st it ≠ 0) : Vd e it := by
  by_cases hz : st0 it = 0 ∧ it < c ∧ Dv e (fun y => 1 ≤ st0 y ∧ st0 y < r) it
  · exact Dv_valid hd hz.2.2
  · rw [(h it).2 hz] at hi
    exact hv it hi
theorem live_for (hv : ∀ it, st it ≠ 0 → Vd e it) : ∀ u y, u < e 8 0 → y < 2 → u < 40 → st (20 + 2 * u + y) ≠ 0 → e 14 u = 1 := by
  intro u y hu hy h40 h0
  rcases hv _ h0 with z | z | z
  · omega
  · have := z.2.2.2
    rwa [show (20 + 2 * u + y - 20) / 2 = u by omega] at this
  · omega
/-- how a round ends -/
def REnd (e : Dt) (st0 : Nat → Nat) (r : Nat) (s : Sg) (rec67 : Int32 → Int32 → Sg → Ro) (o : Ro) : Prop := ∃ a s' st', MRep st' s' ∧ SF e st0 r 220 st' ∧ Tg a (Nw e st0 r 220) ∧ Cf s s' ∧ o = rec67 (nI r) a s'
theorem MRep.upT (h : MRep st s) {k : Nat} (hk : k < 20) (hr : r ≤ 1000) : MRep (updN st k r) (wr s 52 k (nI r)) := by
  refine ⟨fun j hj => ?_, fun j hj => ?_, fun j hj => ?_, fun y => ?_⟩
  · unfold updN
    by_cases g : j = k
    · subst g; rw [wr_s, if_pos rfl]
    · rw [wr_k _ _ _ g, if_neg g]; exact h.1 j hj
  · rw [wr_c _ _ _ (by omega), updN_n _ _ (by omega)]; exact h.2.1 j hj
  · rw [wr_c _ _ _ (by omega), updN_n _ _ (by omega)]; exact h.2.2.1 j hj
  · unfold updN; have := h.2.2.2 y; split <;> omega
theorem MRep.upL (h : MRep st s) {k : Nat} (hk : k < 80) (hr : r ≤ 1000) : MRep (updN st (20 + k) r) (wr s 53 k (nI r)) := by
  refine ⟨fun j hj => ?_, fun j hj => ?_, fun j hj => ?_, fun y => ?_⟩
  · rw [wr_c _ _ _ (by omega), updN_n _ _ (by omega)]; exact h.1 j hj
  · unfold updN
    by_cases g : j = k
    · subst g; rw [wr_s, if_pos rfl]
    · rw [wr_k _ _ _ g, if_neg (by omega)]; exact h.2.1 j hj
  · rw [wr_c _ _ _ (by omega), updN_n _ _ (by omega)]; exact h.2.2.1 j hj
  · unfold updN; have := h.2.2.2 y; split <;> omega
theorem MRep.upO (h : MRep st s) {k : Nat} (hk : k < 120) (hr : r ≤ 1000) : MRep (updN st (100 + k) r) (wr s 54 k (nI r)) := by
  refine ⟨fun j hj => ?_, fun j hj => ?_, fun j hj => ?_, fun y => ?_⟩
  · rw [wr_c _ _ _ (by omega), updN_n _ _ (by omega)]; exact h.1 j hj
  · rw [wr_c _ _ _ (by omega), updN_n _ _ (by omega)]; exact h.2.1 j hj
  · unfold updN
    by_cases g : j = k
    · subst g; rw [wr_s, if_pos rfl]
    · rw [wr_k _ _ _ g, if_neg (by omega)]; exact h.2.2.1 j hj
  · unfold updN; have := h.2.2.2 y; split <;> omega
theorem Cf.w {k : Nat} {v : Int32} {c : Nat} (hc : c = 52 ∨ c = 53 ∨ c = 54) : Cf s (wr s c k v) := ⟨fun c' a b g i j l => wr_c _ _ _ (by omega), fun j hj => by rw [wr_c _ _ _ (by omega)]⟩
theorem M_r184 (hG : DG e) (h : ER e s) (hr : r ≤ 1000) (hr0 : 1 ≤ r) (hv : ∀ it, st0 it ≠ 0 → Vd e it) (rec67 : Int32 → Int32 → Sg → Ro) {a : Int32} (hM : MRep st s1) (hS : SF e st0 r 100 st) (ha : Tg a (Nw e st0 r 100)) (hC : Cf s s1) : REnd e st0 r s rec67 (f_Mod_close_184 rec67 (nI r) a 0 s1) := by
  have hFn := hG.1.2.1
  have hUn := hG.1.2.2.1
  unfold f_Mod_close_184
  refine itr2_run (N := 2 * e 4 0) (I := fun k a z s1 => z = nI k ∧ ∃ st, MRep st s1 ∧ SF e st0 r (100 + k) st ∧ Tg a (Nw e st0 r (100 + k)) ∧ Cf s s1) (E := REnd e st0 r s rec67) ?_ ?_ (2 * e 4 0) 4096 0 a 0 s1 (by omega) (by omega) ⟨nI_0.symm, st, hM, hS, ha, hC⟩
  · rintro rec k a z s1 hk ⟨rfl, st, hM, hS, ha, hC⟩
    have h1 := h.fr hC
    have hb := hM.2.2.2 (100 + k)
    have hL : ∀ u y, u < e 8 0 → y < 2 → st (20 + 2 * u + y) ≠ 0 → e 14 u = 1 := fun u y hu hy => live_for (fun it hi => hS.valid hG.1 hv hi) u y hu hy (by omega)
    refine Or.inl ?_
    rw [h1.1.2.1, n2n, if_neg (fun z => by have := (nI_leI (by omega) (by omega)).mp z; omega), if_pos (inb_nI (by omega) (by omega)), ix_nI (by omega), hM.2.2.1 k (by omega), ← nI_succ]
    by_cases h0 : st (100 + k) = 0
    · rw [if_neg (show ¬ (0 : Int32) < nI _ from fun z => by have := (nI_ltI (a := 0) (by omega) (by omega)).mp z; omega), n_side (by omega), n_half (by omega)]
      obtain ⟨s2, g1, g2⟩ := M_comesOn hG h1 hM hL (f := k / 2) (x := k % 2) (r := r) (by omega) (Nat.mod_lt _ (by omega)) hr
      have ei : 100 + 2 * (k / 2) + k % 2 = 100 + k := by omega
      rw [ei] at g2
      have hh : st0 (100 + k) = 0 := by rw [← hS.here]; exact h0
      by_cases hd : Dv e (fun y => 1 ≤ st y ∧ st y < r) (100 + k)
      · rw [g2.1 hd, bnd_some, if_neg (by decide), if_pos (inb_nI (by omega) (by omega))]
        have hy : st0 (100 + k) = 0 ∧ Dv e (fun y => 1 ≤ st0 y ∧ st0 y < r) (100 + k) := ⟨hh, (hS.dv _).mp hd⟩
        exact ⟨_, _, _, ⟨rfl, _, (hM.gf g1).upO (by omega) hr, hS.take hy, Or.inl ⟨rfl, 100 + k, by omega, hy⟩, (hC.trans g1.cf).trans (Cf.w (by omega))⟩, rfl⟩
      · rw [g2.2 hd, bnd_some, if_pos rfl]
        have hn : ¬ (st0 (100 + k) = 0 ∧ Dv e (fun y => 1 ≤ st0 y ∧ st0 y < r) (100 + k)) := fun z => hd ((hS.dv _).mpr z.2)
        exact ⟨_, _, _, ⟨rfl, _, hM.gf g1, hS.skip hn, ha.congr (Nw.skip hn), hC.trans g1.cf⟩, rfl⟩
    · rw [if_pos (show (0 : Int32) < nI _ from (nI_ltI (a := 0) (by omega) (by omega)).mpr (by omega))]
      have hn : ¬ (st0 (100 + k) = 0 ∧ Dv e (fun y => 1 ≤ st0 y ∧ st0 y < r) (100 + k)) := fun z => h0 (by rw [hS.here]; exact z.1)
      exact ⟨_, _, _, ⟨rfl, _, hM, hS.skip hn, ha.congr (Nw.skip hn), hC⟩, rfl⟩
  · rintro rec a z s1 ⟨rfl, st, hM, hS, ha, hC⟩
    have h1 := h.fr hC
    rw [h1.1.2.1, n2n, if_pos ((nI_leI (by omega) (by omega)).mpr (Nat.le_refl _))]
    have hgap : ∀ it, 100 + 2 * e 4 0 ≤ it → it < 220 → ¬ Vd e it := by
      intro it g1 g2 z
      rcases z with z | z | z
      · omega
      · omega
      · have := z.2.2; omega
    exact ⟨a, s1, st, hM, hS.gap (by omega) hgap hG.1, ha.congr (Nw.gap (by omega) hgap hG.1), hC, rfl⟩
theorem M_r131 (hG : DG e) (h : ER e s) (hr : r ≤ 1000) (hr0 : 1 ≤ r) (hv : ∀ it, st0 it ≠ 0 → Vd e it) (rec67 : Int32 → Int32 → Sg → Ro) {a : Int32} (hM : MRep st s1) (hS : SF e st0 r 20 st) (ha : Tg a (Nw e st0 r 20)) (hC : Cf s s1) : REnd e st0 r s rec67 (f_Mod_close_131 rec67 (nI r) a 0 s1) := by
  have hUn := hG.1.2.2.1
  unfold f_Mod_close_131
  refine itr2_run (N := 2 * e 8 0) (I := fun k a z s1 => z = nI k ∧ ∃ st, MRep st s1 ∧ SF e st0 r (20 + k) st ∧ Tg a (Nw e st0 r (20 + k)) ∧ Cf s s1) (E := REnd e st0 r s rec67) ?_ ?_ (2 * e 8 0) 4096 0 a 0 s1 (by omega) (by omega) ⟨nI_0.symm, st, hM, hS, ha, hC⟩
  · rintro rec k a z s1 hk ⟨rfl, st, hM, hS, ha, hC⟩
    have h1 := h.fr hC
    have hb := hM.2.2.2 (20 + k)
    refine Or.inl ?_
    rw [h1.1.2.2.1, n2n, if_neg (fun z => by have := (nI_leI (by omega) (by omega)).mp z; omega), if_pos (inb_nI (by omega) (by omega)), ix_nI (by omega), hM.2.1 k (by omega), ← nI_succ]
    by_cases h0 : st (20 + k) = 0
    · rw [if_neg (show ¬ (0 : Int32) < nI _ from fun z => by have := (nI_ltI (a := 0) (by omega) (by omega)).mp z; omega), n_side (by omega), n_half (by omega)]
      have g2 := M_comesLive hG h1 hM (u := k / 2) (x := k % 2) (r := r) (by omega) (Nat.mod_lt _ (by omega)) hr
      have ei : 20 + 2 * (k / 2) + k % 2 = 20 + k := by omega
      rw [ei] at g2
      have hh : st0 (20 + k) = 0 := by rw [← hS.here]; exact h0
      by_cases hd : Dv e (fun y => 1 ≤ st y ∧ st y < r) (20 + k)
      · rw [g2.1 hd, bnd_some, if_neg (by decide), if_pos (inb_nI (by omega) (by omega))]
        have hy : st0 (20 + k) = 0 ∧ Dv e (fun y => 1 ≤ st0 y ∧ st0 y < r) (20 + k) := ⟨hh, (hS.dv _).mp hd⟩
        exact ⟨_, _, _, ⟨rfl, _, hM.upL (by omega) hr, hS.take hy, Or.inl ⟨rfl, 20 + k, by omega, hy⟩, hC.trans (Cf.w (by omega))⟩, rfl⟩
      · rw [g2.2 hd, bnd_some, if_pos rfl]
        have hn : ¬ (st0 (20 + k) = 0 ∧ Dv e (fun y => 1 ≤ st0 y ∧ st0 y < r) (20 + k)) := fun z => hd ((hS.dv _).mpr z.2)
        exact ⟨_, _, _, ⟨rfl, _, hM, hS.skip hn, ha.congr (Nw.skip hn), hC⟩, rfl⟩
    · rw [if_pos (show (0 : Int32) < nI _ from (nI_ltI (a := 0) (by omega) (by omega)).mpr (by omega))]
      have hn : ¬ (st0 (20 + k) = 0 ∧ Dv e (fun y => 1 ≤ st0 y ∧ st0 y < r) (20 + k)) := fun z => h0 (by rw [hS.here]; exact z.1)
      exact ⟨_, _, _, ⟨rfl, _, hM, hS.skip hn, ha.congr (Nw.skip hn), hC⟩, rfl⟩
  · rintro rec a z s1 ⟨rfl, st, hM, hS, ha, hC⟩
    have h1 := h.fr hC
    rw [h1.1.2.2.1, n2n, if_pos ((nI_leI (by omega) (by omega)).mpr (Nat.le_refl _))]
    have hgap : ∀ it, 20 + 2 * e 8 0 ≤ it → it < 100 → ¬ Vd e it := by
      intro it g1 g2 z
      rcases z with z | z | z
      · omega
      · have := z.2.2.1; omega
      · omega
    exact M_r184 hG h hr hr0 hv rec67 hM (hS.gap (by omega) hgap hG.1) (ha.congr (Nw.gap (by omega) hgap hG.1)) hC
theorem M_r78 (hG : DG e) (h : ER e s) (hr : r ≤ 1000) (hr0 : 1 ≤ r) (hv : ∀ it, st0 it ≠ 0 → Vd e it) (rec67 : Int32 → Int32 → Sg → Ro) (hM : MRep st0 s1) (hC : Cf s s1) : REnd e st0 r s rec67 (f_Mod_close_78 rec67 (nI r) 0 0 s1) := by
  have hPn := hG.1.1
  have hUn := hG.1.2.2.1
  unfold f_Mod_close_78
  refine itr2_run (N := 2 * e 0 0) (I := fun k a z s1 => z = nI k ∧ ∃ st, MRep st s1 ∧ SF e st0 r k st ∧ Tg a (Nw e st0 r k) ∧ Cf s s1) (E := REnd e st0 r s rec67) ?_ ?_ (2 * e 0 0) 4096 0 0 0 s1 (by omega) (by omega) ⟨nI_0.symm, st0, hM, fun it => ⟨fun z => absurd z.2.1 (Nat.not_lt_zero _), fun _ => rfl⟩, Or.inr ⟨rfl, fun z => by obtain ⟨it, h1, -⟩ := z; omega⟩, hC⟩
  · rintro rec k a z s1 hk ⟨rfl, st, hM, hS, ha, hC⟩
    have h1 := h.fr hC
    have hb := hM.2.2.2 k
    have hL : ∀ u y, u < e 8 0 → y < 2 → st (20 + 2 * u + y) ≠ 0 → e 14 u = 1 := fun u y hu hy => live_for (fun it hi => hS.valid hG.1 hv hi) u y hu hy (by omega)
    refine Or.inl ?_
    rw [h1.1.1, n2n, if_neg (fun z => by have := (nI_leI (by omega) (by omega)).mp z; omega), if_pos (inb_nI (by omega) (by omega)), ix_nI (by omega), hM.1 k (by omega), ← nI_succ]
    by_cases h0 : st k = 0
    · rw [if_neg (show ¬ (0 : Int32) < nI _ from fun z => by have := (nI_ltI (a := 0) (by omega) (by omega)).mp z; omega), n_side (by omega), n_half (by omega)]
      have g2 := M_comesThere hG h1 hM (p := k / 2) (x := k % 2) (r := r) (by omega) (Nat.mod_lt _ (by omega)) hr hL
      rw [half2] at g2
      have hh : st0 k = 0 := by rw [← hS.here]; exact h0
      by_cases hd : Dv e (fun y => 1 ≤ st y ∧ st y < r) k
      · rw [g2.1 hd, bnd_some, if_neg (by decide), if_pos (inb_nI (by omega) (by omega))]
        have hy : st0 k = 0 ∧ Dv e (fun y => 1 ≤ st0 y ∧ st0 y < r) k := ⟨hh, (hS.dv _).mp hd⟩
        exact ⟨_, _, _, ⟨rfl, _, hM.upT (by omega) hr, hS.take hy, Or.inl ⟨rfl, k, by omega, hy⟩, hC.trans (Cf.w (by omega))⟩, rfl⟩
      · rw [g2.2 hd, bnd_some, if_pos rfl]
        have hn : ¬ (st0 k = 0 ∧ Dv e (fun y => 1 ≤ st0 y ∧ st0 y < r) k) := fun z => hd ((hS.dv _).mpr z.2)
        exact ⟨_, _, _, ⟨rfl, _, hM, hS.skip hn, ha.congr (Nw.skip hn), hC⟩, rfl⟩
    · rw [if_pos (show (0 : Int32) < nI _ from (nI_ltI (a := 0) (by omega) (by omega)).mpr (by omega))]
      have hn : ¬ (st0 k = 0 ∧ Dv e (fun y => 1 ≤ st0 y ∧ st0 y < r) k) := fun z => h0 (by rw [hS.here]; exact z.1)
      exact ⟨_, _, _, ⟨rfl, _, hM, hS.skip hn, ha.congr (Nw.skip hn), hC⟩, rfl⟩
  · rintro rec a z s1 ⟨rfl, st, hM, hS, ha, hC⟩
    have h1 := h.fr hC
    rw [h1.1.1, n2n, if_pos ((nI_leI (by omega) (by omega)).mpr (Nat.le_refl _))]
    have hgap : ∀ it, 2 * e 0 0 ≤ it → it < 20 → ¬ Vd e it := by
      intro it g1 g2 z
      rcases z with z | z | z
      · have := z.2; omega
      · omega
      · omega
    exact M_r131 hG h hr hr0 hv rec67 hM (hS.gap (by omega) hgap hG.1) (ha.congr (Nw.gap (by omega) hgap hG.1)) hC
/-- between rounds -/
def RI (e : Dt) (ρ : Nat) (st : Nat → Nat) : Prop := (∀ it, st it ≤ ρ) ∧ (∀ it n, st it = n + 1 → Dv e (fun y => 1 ≤ st y ∧ st y ≤ n) it) ∧ (∀ it n, n < ρ → Dv e (fun y => 1 ≤ st y ∧ st y ≤ n) it → 1 ≤ st it ∧ st it ≤ n + 1)
theorem RI.valid {ρ : Nat} (h : RI e ρ st) (hd : DOk e) : ∀ it, st it ≠ 0 → Vd e it := fun it hi => by
  obtain ⟨k, hk⟩ : ∃ k, st it = k + 1 := ⟨st it - 1, by omega⟩
  exact Dv_valid hd (h.2.1 it k hk)
theorem RI.next {ρ : Nat} {st1 : Nat → Nat} (h : RI e ρ st) (hS : SF e st (ρ + 1) 220 st1) (hd : DOk e) : RI e (ρ + 1) st1 := by
  obtain ⟨h1, h2, h3⟩ := h
  have h220 : ∀ it, Dv e (fun y => 1 ≤ st y ∧ st y < ρ + 1) it → it < 220 := fun it z => by
    rcases Dv_valid hd z with z | z | z <;> omega
  have old : ∀ y, st y ≠ 0 → st1 y = st y := fun y hy => (hS y).2 (fun z => hy z.1)
  have back : ∀ y n, n ≤ ρ → (1 ≤ st1 y ∧ st1 y ≤ n) → 1 ≤ st y ∧ st y ≤ n := by
    intro y n hn hy
    by_cases hz : st y = 0 ∧ y < 220 ∧ Dv e (fun y => 1 ≤ st y ∧ st y < ρ + 1) y
    · rw [(hS y).1 hz] at hy; omega
    · rw [(hS y).2 hz] at hy; exact hy
  refine ⟨fun it => ?_, fun it n hn => ?_, fun it n hn hdv => ?_⟩
  · by_cases hz : st it = 0 ∧ it < 220 ∧ Dv e (fun y => 1 ≤ st y ∧ st y < ρ + 1) it
    · rw [(hS it).1 hz]; exact Nat.le_refl _
    · rw [(hS it).2 hz]; have := h1 it; omega
  · by_cases hz : st it = 0 ∧ it < 220 ∧ Dv e (fun y => 1 ≤ st y ∧ st y < ρ + 1) it
    · rw [(hS it).1 hz] at hn
      obtain rfl : n = ρ := by omega
      exact Dv_mono e _ _ it (fun y hy => by rw [old y (by omega)]; omega) hz.2.2
    · rw [(hS it).2 hz] at hn
      exact Dv_mono e _ _ it (fun y hy => by rw [old y (by omega)]; exact hy) (h2 it n hn)
  · have hd2 := Dv_mono e _ (fun y => 1 ≤ st y ∧ st y ≤ n) it (fun y hy => back y n (by omega) hy) hdv
    by_cases hnr : n < ρ
    · have := h3 it n hnr hd2
      rw [old it (by omega)]
      exact this
    · obtain rfl : n = ρ := by omega
      by_cases h0 : st it = 0
      · have hd3 : Dv e (fun y => 1 ≤ st y ∧ st y < n + 1) it := Dv_mono e _ _ it (fun y hy => by omega) hd2
        rw [(hS it).1 ⟨h0, h220 it hd3, hd3⟩]
        omega
      · rw [old it h0]
        have := h1 it
        omega
/-- how the reference's closing ends -/
def MEnd (e : Dt) (s : Sg) (o : Ro) : Prop := ∃ M s' st, o = some (nI M, s') ∧ MRep st s' ∧ FX e st ∧ Gst st M ∧ Cf s s'
theorem M_rounds (hG : DG e) (h : ER e s) (hM : MRep (fun _ => 0) s1) (hC : Cf s s1) : MEnd e s (f_Mod_close_67 0 1 s1) := by
  unfold f_Mod_close_67
  refine itr2_run (N := 221) (I := fun k z a s1 => z = nI k ∧ ∃ st, MRep st s1 ∧ RI e k st ∧ Cf s s1 ∧ ((a = 1 ∧ k ≤ cnt st 220 ∧ (k = 0 ∨ ∃ it, st it = k)) ∨ (a = 0 ∧ 1 ≤ k ∧ FX e st ∧ Gst st (k - 1)))) (E := MEnd e s) ?_ ?_ 221 4096 0 0 1 s1 (by omega) (by omega) ⟨nI_0.symm, _, hM, ⟨fun _ => Nat.le_refl _, fun it n (hn : 0 = n + 1) => absurd hn (by omega), fun it n hn => absurd hn (Nat.not_lt_zero _)⟩, hC, Or.inl ⟨rfl, Nat.zero_le _, Or.inl rfl⟩⟩
  · rintro rec ρ z a s1 hρ ⟨rfl, st, hM, hR, hC, ha⟩
    rcases ha with ⟨rfl, hc, hx⟩ | ⟨rfl, h1, hfx, hg⟩
    · refine Or.inl ?_
      rw [if_neg (by decide), ← nI_succ]
      obtain ⟨a, s2, st1, hM1, hS, ht, hC1, eo⟩ := M_r78 hG h (r := ρ + 1) (by omega) (by omega) (hR.valid hG.1) rec hM hC
      have hN := hR.next hS hG.1
      refine ⟨_, _, _, ⟨rfl, st1, hM1, hN, hC1, ?_⟩, eo⟩
      rcases ht with ⟨rfl, it, hit, h0, hdv⟩ | ⟨rfl, hno⟩
      · have hnew := (hS it).1 ⟨h0, hit, hdv⟩
        refine Or.inl ⟨rfl, ?_, Or.inr ⟨it, hnew⟩⟩
        have := cnt_strict (f := st) (g := st1) h0 (by omega) 220 hit (fun i _ hi => by
          rw [(hS i).2 (fun z => hi z.1)]; exact hi)
        omega
      · have same : st1 = st := funext fun it => (hS it).2 (fun z => hno ⟨it, z.2.1, z.1, z.2.2⟩)
        subst same
        refine Or.inr ⟨rfl, by omega, ⟨hR.2.1, fun it n hdv => ?_⟩, hR.1, ?_⟩
        · by_cases hn : n < ρ + 1
          · exact hN.2.2 it n hn hdv
          · have hdv2 := Dv_mono e _ (fun y => 1 ≤ st1 y ∧ st1 y ≤ ρ) it (fun y hy => ⟨hy.1, hR.1 y⟩) hdv
            have := hN.2.2 it ρ (by omega) hdv2
            omega
        · rcases hx with hx | hx
          · exact Or.inl (by omega)
          · exact Or.inr hx
    · refine Or.inr ?_
      rw [if_pos rfl, show nI ρ - 1 = nI (ρ - 1) from pk_sub (b := 1) (by omega)]
      exact ⟨_, s1, st, rfl, hM, hfx, hg, hC⟩
  · rintro rec z a s1 ⟨rfl, st, hM, hR, hC, ha⟩
    rcases ha with ⟨rfl, hc, hx⟩ | ⟨rfl, h1, hfx, hg⟩
    · have := cnt_le st 220
      omega
    · rw [if_pos rfl, show nI 221 - 1 = nI (221 - 1) from pk_sub (b := 1) (by omega)]
      exact ⟨_, s1, st, rfl, hM, hfx, hg, hC⟩
theorem M_close (hG : DG e) (h : ER e s) : MEnd e s (f_Mod_close s) := by
  unfold f_Mod_close f_Mod_close_2
  refine itr1_run (N := 20) (I := fun k z s1 => z = nI k ∧ (∀ j, j < k → s1 52 j = 0) ∧ Cf s s1) (E := MEnd e s) ?_ ?_ 20 4096 0 0 s (by omega) (by omega) ⟨nI_0.symm, fun j hj => absurd hj (Nat.not_lt_zero _), Cf.refl s⟩
  · rintro rec k z s1 hk ⟨rfl, hz, hC⟩
    refine Or.inl ?_
    rw [if_neg (fun z => by have := (nI_leI (a := 20) (by omega) (by omega)).mp z; omega), if_pos (inb_nI hk (by omega)), ix_nI (by omega), ← nI_succ]
    refine ⟨_, _, ⟨rfl, fun j hj => ?_, hC.trans (Cf.w (by omega))⟩, rfl⟩
    by_cases g : j = k
    · subst g; rw [wr_s]
    · rw [wr_k _ _ _ g]; exact hz j (by omega)
  · rintro rec z s1 ⟨rfl, hz2, hC⟩
    rw [if_pos (show (20 : Int32) ≤ nI 20 from (nI_leI (a := 20) (by omega) (by omega)).mpr (Nat.le_refl _))]
    unfold f_Mod_close_23
    refine itr1_run (N := 80) (I := fun k z s1 => z = nI k ∧ (∀ j, j < 20 → s1 52 j = 0) ∧ (∀ j, j < k → s1 53 j = 0) ∧ Cf s s1) (E := MEnd e s) ?_ ?_ 80 4096 0 0 s1 (by omega) (by omega) ⟨nI_0.symm, hz2, fun j hj => absurd hj (Nat.not_lt_zero _), hC⟩
    · rintro rec k z s1 hk ⟨rfl, hz2, hz, hC⟩
      refine Or.inl ?_
      rw [if_neg (fun z => by have := (nI_leI (a := 80) (by omega) (by omega)).mp z; omega), if_pos (inb_nI hk (by omega)), ix_nI (by omega), ← nI_succ]
      refine ⟨_, _, ⟨rfl, fun j hj => ?_, fun j hj => ?_, hC.trans (Cf.w (by omega))⟩, rfl⟩
      · rw [wr_c _ _ _ (by omega)]; exact hz2 j hj
      · by_cases g : j = k
        · subst g; rw [wr_s]
        · rw [wr_k _ _ _ g]; exact hz j (by omega)
    · rintro rec z s1 ⟨rfl, hz2, hz3, hC⟩
      rw [if_pos (show (80 : Int32) ≤ nI 80 from (nI_leI (a := 80) (by omega) (by omega)).mpr (Nat.le_refl _))]
      unfold f_Mod_close_44
      refine itr1_run (N := 120) (I := fun k z s1 => z = nI k ∧ (∀ j, j < 20 → s1 52 j = 0) ∧ (∀ j, j < 80 → s1 53 j = 0) ∧ (∀ j, j < k → s1 54 j = 0) ∧ Cf s s1) (E := MEnd e s) ?_ ?_ 120 4096 0 0 s1 (by omega) (by omega) ⟨nI_0.symm, hz2, hz3, fun j hj => absurd hj (Nat.not_lt_zero _), hC⟩
      · rintro rec k z s1 hk ⟨rfl, hz2, hz3, hz, hC⟩
        refine Or.inl ?_
        rw [if_neg (fun z => by have := (nI_leI (a := 120) (by omega) (by omega)).mp z; omega), if_pos (inb_nI hk (by omega)), ix_nI (by omega), ← nI_succ]
        refine ⟨_, _, ⟨rfl, fun j hj => ?_, fun j hj => ?_, fun j hj => ?_, hC.trans (Cf.w (by omega))⟩, rfl⟩
        · rw [wr_c _ _ _ (by omega)]; exact hz2 j hj
        · rw [wr_c _ _ _ (by omega)]; exact hz3 j hj
        · by_cases g : j = k
          · subst g; rw [wr_s]
          · rw [wr_k _ _ _ g]; exact hz j (by omega)
      · rintro rec z s1 ⟨rfl, hz2, hz3, hz4, hC⟩
        rw [if_pos (show (120 : Int32) ≤ nI 120 from (nI_leI (a := 120) (by omega) (by omega)).mpr (Nat.le_refl _))]
        exact M_rounds hG h ⟨fun j hj => hz2 j hj, fun j hj => hz3 j hj, fun j hj => hz4 j hj, fun x => Nat.zero_le _⟩ hC
end Re
