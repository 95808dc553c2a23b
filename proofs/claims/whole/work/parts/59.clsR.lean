/-! what asking calls answer -/
def SpRun (t d : Dt) (cur : Bool) (l1 v : Int32) (d' : Dt) (cur' : Bool) : Prop :=
  (∃ pl M, l1 = nI pl ∧ pl < 8 ∧ d' = snapd t pl ∧ v = nI M ∧ Gst (stg (snapd t pl)) M ∧ cur' = true) ∨ ((∀ pl, pl < 8 → l1 ≠ nI pl) ∧ v = -1 ∧ d' = d ∧ cur' = cur)
def SpSt (d : Dt) (base N : Nat) (l1 l2 v : Int32) : Prop :=
  (∃ p x, l1 = nI p ∧ p < N ∧ l2 = nI x ∧ x < 2 ∧ v = nI (stg d (base + 2 * p + x))) ∨ ((∀ p x, l1 = nI p → p < N → l2 = nI x → x < 2 → False) ∧ v = 0)
theorem snapd_DG {t : Dt} {pl : Nat} (hT : DOk t) (hF : DF t) (hp : pl < 8) : DG (snapd t pl) := ⟨hT, hF, hp⟩
theorem snapd_Sn {t : Dt} {pl : Nat} (h2 : ∀ p, t 2 p = 1 → t 1 p = 1) : Sn (snapd t pl) t :=
  ⟨⟨Nat.le_refl _, Nat.le_refl _, Nat.le_refl _, Nat.le_refl _, Nat.le_refl _⟩, fun _ _ => rfl, fun _ _ => ⟨rfl, rfl, rfl, rfl⟩, fun _ _ => ⟨rfl, rfl, rfl, rfl, rfl, rfl⟩, fun _ _ => ⟨rfl, rfl, rfl, rfl⟩, fun _ _ => ⟨rfl, rfl⟩, fun p _ => ⟨fun h => ⟨h, rfl⟩, fun h => h2 p h⟩⟩
section Run
variable {t d : Dt} {cur : Bool} {lv : List Nat} {s : Sg}
theorem TC.fr {s' : Sg} (h : TC t s) (e : ∀ c, c ≤ 20 → c ≠ 0 → s' c = s c) : TC t s' := by
  have e1 := e 1 (by omega) (by omega)
  have e2 := e 2 (by omega) (by omega)
  have e3 := e 3 (by omega) (by omega)
  have e4 := e 4 (by omega) (by omega)
  have e5 := e 5 (by omega) (by omega)
  have e6 := e 6 (by omega) (by omega)
  have e7 := e 7 (by omega) (by omega)
  have e8 := e 8 (by omega) (by omega)
  have e9 := e 9 (by omega) (by omega)
  have e10 := e 10 (by omega) (by omega)
  have e11 := e 11 (by omega) (by omega)
  have e12 := e 12 (by omega) (by omega)
  have e13 := e 13 (by omega) (by omega)
  have e14 := e 14 (by omega) (by omega)
  have e15 := e 15 (by omega) (by omega)
  have e16 := e 16 (by omega) (by omega)
  have e17 := e 17 (by omega) (by omega)
  have e18 := e 18 (by omega) (by omega)
  have e19 := e 19 (by omega) (by omega)
  have e20 := e 20 (by omega) (by omega)
  unfold TC
  rw [e1, e2, e3, e4, e5, e6, e7, e8, e9, e10, e11, e12, e13, e14, e15, e16, e17, e18, e19, e20]
  exact h
theorem F_take (h : TC t s) {pl : Nat} : ∃ s', f_Snap_take (nI pl) s = some (0, s') ∧ SC (snapd t pl) s' ∧ (∀ c, c ≠ 21 → c ≠ 22 → s' c = s c) := by
  unfold f_Snap_take
  rw [if_pos (by decide)]
  refine ⟨_, rfl, ?_, fun c h1 h2 => ?_⟩
  · obtain ⟨⟨a1, a2, a3, a4⟩, a5, a6, a7, a8, a9, a10⟩ := h
    refine ⟨⟨?_, ?_, ?_, ?_, ?_⟩, fun p hp => ?_, fun u n hu hn => ?_⟩
    · simp [cpa, wr_at, snapd]
    · simpa [cpa, wr_at, snapd] using a1
    · simpa [cpa, wr_at, snapd] using a2
    · simpa [cpa, wr_at, snapd] using a3
    · simpa [cpa, wr_at, snapd] using a4
    · simpa [cpa, wr_at, snapd] using a5 p hp
    · have hx : ix 0 = 0 := by decide
      have hy : ix 40 = 40 := by decide
      have e : cpa (wr (wr (wr (wr (wr (wr (wr s 21 4 (nI pl)) 21 5 (s 1 1)) 21 6 (s 1 2)) 21 7 (s 1 0)) 21 8 (s 3 0)) 21 9 (s 8 0)) 21 10 (s 16 0)) 12 22 (ix 0) (ix 0) (ix 40) 22 u = s 12 u := by
        simp [cpa, va_cpy, hx, hy, hu, wr_c]
      rw [e]
      exact a9 u n hu hn
  · rw [cpa_c _ _ _ _ h2]
    simp only [wr_c _ _ _ h1]
theorem C_run (hT : DOk t) (hF : DF t) (h2 : ∀ p, t 2 p = 1 → t 1 p = 1) (h : CR t d cur lv s) (l1 : Int32) : ∃ v s' d' cur', f_FU_run l1 s = some (v, s') ∧ SpRun t d cur l1 v d' cur' ∧ CR t d' cur' lv s' ∧ Oth s s' ∧ (∀ pl, pl < 8 → l1 = nI pl → FX (snapd t pl) (stg (snapd t pl)) ∧ ∀ x, stg (snapd t pl) x ≤ 221) := by
  unfold f_FU_run
  rcases hasc l1 8 with ⟨pl, hpl, rfl⟩ | hno
  · have e2 : f_FU_within (nI pl) 8 s = some (1, s) := within_yes (n := 8) hpl (by omega) s
    rw [e2, bnd_some, if_neg (by decide)]
    obtain ⟨s2, k1, k2, k3⟩ := F_take h.1 (pl := pl)
    have hG := snapd_DG hT hF hpl
    have hTC2 : TC t s2 := h.1.fr (fun c a b => k3 c (by omega) (by omega))
    have hD2 := DC_of hG (snapd_Sn h2) hTC2 k2
    obtain ⟨s3, q3, e3, g1, g2, g3, g4, g5, g6⟩ := F_close (c := 23) (by omega) hG hD2
    rw [k1, bnd_some, e3, bnd_some]
    have hR4 : CRep 23 (wr s3 0 10 1) q3 := by
      unfold CRep
      rw [wr_c _ _ _ (show 23 + 1 ≠ 0 by omega), wr_c _ _ _ (show 23 + 2 ≠ 0 by omega), wr_c _ _ _ (show 23 ≠ 0 by omega)]
      exact g1
    obtain ⟨M, e4, hM⟩ := F_greatest hR4 g3 g4
    rw [e4, bnd_some]
    have hst : stg (snapd t pl) = q3.1 := stg_eq g2
    refine ⟨_, _, _, true, rfl, Or.inl ⟨pl, M, rfl, hpl, rfl, rfl, by rw [hst]; exact hM, rfl⟩, ⟨?_, ?_, ?_, ?_, ?_, ?_⟩, fun c hc => ?_, fun pl' hp' e => ?_⟩
    · exact hTC2.fr (fun c a b => by rw [wr_c _ _ _ b]; exact g6 c (by omega) (by omega) (by omega))
    · unfold SC
      rw [wr_c _ _ _ (show 21 ≠ 0 by omega), wr_c _ _ _ (show 22 ≠ 0 by omega), g6 21 (by omega) (by omega) (by omega), g6 22 (by omega) (by omega) (by omega)]
      exact k2
    · intro x hx
      rw [hst]
      exact hR4.1 x hx
    · rw [wr_s]; rfl
    · rw [wr_k _ _ _ (by omega), g6 0 (by omega) (by omega) (by omega), k3 0 (by omega) (by omega)]
      exact h.2.2.2.2.1
    · rw [wr_c _ _ _ (by omega), g6 30 (by omega) (by omega) (by omega), k3 30 (by omega) (by omega)]
      exact h.2.2.2.2.2
    · rw [wr_c _ _ _ (by omega), g6 c (by omega) (by omega) (by omega), k3 c (by omega) (by omega)]
    · have := nI_inj (by omega) (by omega) e
      subst this
      rw [hst]
      exact ⟨g2, g5⟩
  · have e2 : f_FU_within l1 8 s = some (0, s) := within_no (n := 8) (by omega) hno s
    rw [e2, bnd_some, if_pos rfl]
    exact ⟨_, _, _, _, rfl, Or.inr ⟨hno, rfl, rfl, rfl⟩, h, fun _ _ => rfl, fun pl hp e => absurd e (hno pl hp)⟩
/-- the latest run's cells as a state of closing -/
theorem nI_any (x : Int32) : ∃ n, x = nI n := ⟨x.toBitVec.toNat, Int32.toBitVec_inj.mp (by show _ = BitVec.ofNat 32 _; simp)⟩
theorem CR.crep (hI : SI t d cur) (h : CR t d cur lv s) : ∃ q : QS, q.1 = stg d ∧ CRep 23 s q := by
  obtain ⟨n, hn⟩ := nI_any (s 23 3)
  have hx : ∀ j, ∃ n, s 25 j = nI n := fun j => nI_any _
  refine ⟨(stg d, fun j => Classical.choose (hx j), n), rfl, h.2.2.1, fun x => ?_, fun j _ => Classical.choose_spec (hx j), hn⟩
  have := hI.2.2.2.2.2.1 x
  show stg d x ≤ 1000
  omega
theorem stg_0 (hI : SI t d cur) {x : Nat} (h : ¬ Vd d x) : stg d x = 0 := by
  rcases Nat.eq_zero_or_pos (stg d x) with e | e
  · exact e
  · exact absurd (FX_valid hI.2.1.1 hI.2.2.2.2.1 (by omega)) h
theorem C_there (hI : SI t d cur) (h : CR t d cur lv s) (l1 l2 : Int32) : ∃ v, f_FU_there l1 l2 s = some (v, s) ∧ SpSt d 0 10 l1 l2 v := by
  obtain ⟨q, hq, hR⟩ := h.crep hI
  have hPn := hI.1.1.1
  unfold f_FU_there
  rcases hasc l1 (t 0 0) with ⟨p, hp, rfl⟩ | hno
  · rw [Phas_yes h.1.1.1 hp (by omega), bnd_some, if_neg (by decide)]
    rcases hasc l2 2 with ⟨x, hx, rfl⟩ | hno
    · have e2 : f_FU_within (nI x) 2 s = some (1, s) := within_yes (n := 2) hx (by omega) s
      rw [e2, bnd_some, if_neg (by decide), F_thereStage hR (by omega) hx, bnd_some, hq]
      exact ⟨_, rfl, Or.inl ⟨p, x, rfl, by omega, rfl, hx, by rw [Nat.zero_add]⟩⟩
    · have e2 : f_FU_within l2 2 s = some (0, s) := within_no (n := 2) (by omega) hno s
      rw [e2, bnd_some, if_pos rfl]
      exact ⟨_, rfl, Or.inr ⟨fun p x _ _ e hx => hno x hx e, rfl⟩⟩
  · rw [Phas_no h.1.1.1 (by omega) hno, bnd_some, if_pos rfl]
    refine ⟨_, rfl, ?_⟩
    rcases Classical.em (∃ p x, l1 = nI p ∧ p < 10 ∧ l2 = nI x ∧ x < 2) with ⟨p, x, e1, hp, e2, hx⟩ | hn
    · refine Or.inl ⟨p, x, e1, hp, e2, hx, ?_⟩
      rw [stg_0 hI (fun hV => ?_)]
      · rfl
      · have hd := hI.2.2.1.1.1
        rcases hV with z | z | z
        · exact hno p (by omega) e1
        · omega
        · omega
    · exact Or.inr ⟨fun p x a b c e => hn ⟨p, x, a, b, c, e⟩, rfl⟩
theorem C_live (hI : SI t d cur) (h : CR t d cur lv s) (l1 l2 : Int32) : ∃ v, f_FU_live l1 l2 s = some (v, s) ∧ SpSt d 20 40 l1 l2 v := by
  obtain ⟨q, hq, hR⟩ := h.crep hI
  have hUn := hI.1.1.2.2.1
  unfold f_FU_live
  rcases hasc l1 (t 8 0) with ⟨p, hp, rfl⟩ | hno
  · rw [Uhas_yes h.1.1.2.2.1 hp (by omega), bnd_some, if_neg (by decide)]
    rcases hasc l2 2 with ⟨x, hx, rfl⟩ | hno
    · have e2 : f_FU_within (nI x) 2 s = some (1, s) := within_yes (n := 2) hx (by omega) s
      rw [e2, bnd_some, if_neg (by decide), F_liveStage hR (by omega) hx, bnd_some, hq]
      exact ⟨_, rfl, Or.inl ⟨p, x, rfl, by omega, rfl, hx, rfl⟩⟩
    · have e2 : f_FU_within l2 2 s = some (0, s) := within_no (n := 2) (by omega) hno s
      rw [e2, bnd_some, if_pos rfl]
      exact ⟨_, rfl, Or.inr ⟨fun p x _ _ e hx => hno x hx e, rfl⟩⟩
  · rw [Uhas_no h.1.1.2.2.1 (by omega) hno, bnd_some, if_pos rfl]
    refine ⟨_, rfl, ?_⟩
    rcases Classical.em (∃ p x, l1 = nI p ∧ p < 40 ∧ l2 = nI x ∧ x < 2) with ⟨p, x, e1, hp, e2, hx⟩ | hn
    · refine Or.inl ⟨p, x, e1, hp, e2, hx, ?_⟩
      rw [stg_0 hI (fun hV => ?_)]
      · rfl
      · have hd := hI.2.2.1.1.2.2.1
        rcases hV with z | z | z
        · omega
        · have := z.2.2.1
          exact hno p (by omega) e1
        · omega
    · exact Or.inr ⟨fun p x a b c e => hn ⟨p, x, a, b, c, e⟩, rfl⟩
theorem C_on (hI : SI t d cur) (h : CR t d cur lv s) (l1 l2 : Int32) : ∃ v, f_FU_on l1 l2 s = some (v, s) ∧ SpSt d 100 60 l1 l2 v := by
  obtain ⟨q, hq, hR⟩ := h.crep hI
  have hFn := hI.1.1.2.1
  unfold f_FU_on
  rcases hasc l1 (t 4 0) with ⟨p, hp, rfl⟩ | hno
  · rw [Fhas_yes h.1.1.2.1 hp (by omega), bnd_some, if_neg (by decide)]
    rcases hasc l2 2 with ⟨x, hx, rfl⟩ | hno
    · have e2 : f_FU_within (nI x) 2 s = some (1, s) := within_yes (n := 2) hx (by omega) s
      rw [e2, bnd_some, if_neg (by decide), F_onStage hR (by omega) hx, bnd_some, hq]
      exact ⟨_, rfl, Or.inl ⟨p, x, rfl, by omega, rfl, hx, rfl⟩⟩
    · have e2 : f_FU_within l2 2 s = some (0, s) := within_no (n := 2) (by omega) hno s
      rw [e2, bnd_some, if_pos rfl]
      exact ⟨_, rfl, Or.inr ⟨fun p x _ _ e hx => hno x hx e, rfl⟩⟩
  · rw [Fhas_no h.1.1.2.1 (by omega) hno, bnd_some, if_pos rfl]
    refine ⟨_, rfl, ?_⟩
    rcases Classical.em (∃ p x, l1 = nI p ∧ p < 60 ∧ l2 = nI x ∧ x < 2) with ⟨p, x, e1, hp, e2, hx⟩ | hn
    · refine Or.inl ⟨p, x, e1, hp, e2, hx, ?_⟩
      rw [stg_0 hI (fun hV => ?_)]
      · rfl
      · have hd := hI.2.2.1.1.2.1
        rcases hV with z | z | z
        · omega
        · omega
        · have := z.2.2
          exact hno p (by omega) e1
    · exact Or.inr ⟨fun p x a b c e => hn ⟨p, x, a, b, c, e⟩, rfl⟩
end Run
