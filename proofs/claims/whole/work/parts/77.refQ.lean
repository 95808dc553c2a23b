section Rq1
variable {t d : Dt} {cur : Bool} {lv : List Nat} {s : Sg}
theorem NU_of (hS : Sn d t) (hN : NU t) : NU d := fun f g hf hg h5 h6 => by
  obtain ⟨a1, a2, -⟩ := hS.2.2.1 f hf
  obtain ⟨b1, b2, -⟩ := hS.2.2.1 g hg
  have := hS.1.2.1
  exact hN f g (by omega) (by omega) (by omega) (by omega)
theorem ER_of (hG : DG d) (hS : Sn d t) (hA : AskOk d) (hN : NU d) (hT : TR t s) (hR : SR d s) (ho : s 31 40 = -1) : ER d s := by
  obtain ⟨⟨n1, n2, n3, n4, n5⟩, s1, s2, s3, s4, s5, s6⟩ := id hS
  obtain ⟨hA4, hA1, hA2, hA3⟩ := hA
  refine ⟨hR.1, fun p hp => ⟨hR.2 p hp, fun h1 => ?_, (s6 p hp).2⟩, fun p hp => ?_, fun f hf => ?_, fun u hu => ?_, fun r hr => ?_, ⟨hA4, fun k hk => ?_, hA2⟩, fun u f hu hf => ?_⟩
  · rw [((s6 p hp).1 h1).2]
    exact (hT.2.2.1 p hp).2
  · rw [s1 p hp]
    exact hT.2.1 p (by omega)
  · obtain ⟨a1, a2, a3, a4⟩ := s2 f hf
    obtain ⟨b1, b2, b3, b4⟩ := hT.2.2.2.1 f (by omega)
    rw [a1, a3]
    exact ⟨b1, b4⟩
  · obtain ⟨a1, a2, a3, a4, a5, a6⟩ := s3 u hu
    obtain ⟨b1, b2, b3, b4, b5, b6⟩ := hT.2.2.2.2.1 u (by omega)
    rw [a1, a2, a3, a4, a5, a6]
    exact ⟨b1, b2, b3, b4, b5, b6 _ hG.2.2⟩
  · obtain ⟨a1, a2, a3, a4⟩ := s4 r hr
    rw [a1, a2, a3, a4]
    exact hT.2.2.2.2.2.2 r (by omega)
  · obtain ⟨a1, a2⟩ := s5 k hk
    obtain ⟨b1, b2⟩ := hT.2.2.2.2.2.1 k (by omega)
    obtain ⟨c1, c2, c3⟩ := hA1 k hk
    refine ⟨?_, ?_, c1, c2⟩
    · rw [a1]; exact b1
    · rw [a2]; exact b2
  · have h6 := (hG.1.2.2.2.2.1 f hf).2
    rw [ho]
    constructor
    · rintro ⟨k, hk, b1, b2, -⟩
      obtain ⟨c1, c2, c3⟩ := hA1 k hk
      refine ⟨by rw [← b1, ← b2]; exact c3, (hA3 u (d 6 f) h6).mpr ⟨k, hk, b1, by rw [b2]⟩⟩
    · rintro ⟨b1, b2⟩
      obtain ⟨k, hk, c1, c2⟩ := (hA3 u (d 6 f) h6).mp b2
      obtain ⟨e1, e2, e3⟩ := hA1 k hk
      refine ⟨k, hk, c1, hN _ _ e2 hf ?_ c2, nI_m1 (by omega)⟩
      rw [e3, c1, b1]
theorem RR.cf {s' : Sg} (h : RR t d cur lv s) (hC : Cf s s') : RR t d cur lv s' := by
  obtain ⟨h1, h2⟩ := hC
  have f (c : Nat) (a : c ≠ 31) (b : c ≠ 52) (g : c ≠ 53) (i : c ≠ 54) (j : c ≠ 59) (k : c ≠ 60) := h1 c a b g i j k
  unfold RR TR SR RCu
  rw [h2 1 (by omega), h2 2 (by omega), h2 3 (by omega), h2 4 (by omega), h2 5 (by omega), h2 25 (by omega), h2 26 (by omega), h2 27 (by omega), h2 28 (by omega), h2 29 (by omega), h2 30 (by omega), h2 32 (by omega), h2 33 (by omega), h2 40 (by omega), h2 42 (by omega),
    f 32 (by omega) (by omega) (by omega) (by omega) (by omega) (by omega), f 33 (by omega) (by omega) (by omega) (by omega) (by omega) (by omega), f 34 (by omega) (by omega) (by omega) (by omega) (by omega) (by omega), f 35 (by omega) (by omega) (by omega) (by omega) (by omega) (by omega), f 36 (by omega) (by omega) (by omega) (by omega) (by omega) (by omega), f 37 (by omega) (by omega) (by omega) (by omega) (by omega) (by omega), f 38 (by omega) (by omega) (by omega) (by omega) (by omega) (by omega),
    f 39 (by omega) (by omega) (by omega) (by omega) (by omega) (by omega), f 40 (by omega) (by omega) (by omega) (by omega) (by omega) (by omega), f 41 (by omega) (by omega) (by omega) (by omega) (by omega) (by omega), f 42 (by omega) (by omega) (by omega) (by omega) (by omega) (by omega), f 43 (by omega) (by omega) (by omega) (by omega) (by omega) (by omega), f 44 (by omega) (by omega) (by omega) (by omega) (by omega) (by omega), f 45 (by omega) (by omega) (by omega) (by omega) (by omega) (by omega), f 46 (by omega) (by omega) (by omega) (by omega) (by omega) (by omega),
    f 47 (by omega) (by omega) (by omega) (by omega) (by omega) (by omega), f 48 (by omega) (by omega) (by omega) (by omega) (by omega) (by omega), f 49 (by omega) (by omega) (by omega) (by omega) (by omega) (by omega), f 50 (by omega) (by omega) (by omega) (by omega) (by omega) (by omega), f 51 (by omega) (by omega) (by omega) (by omega) (by omega) (by omega), f 55 (by omega) (by omega) (by omega) (by omega) (by omega) (by omega), f 56 (by omega) (by omega) (by omega) (by omega) (by omega) (by omega), f 57 (by omega) (by omega) (by omega) (by omega) (by omega) (by omega), f 58 (by omega) (by omega) (by omega) (by omega) (by omega) (by omega)]
  exact h
theorem Cf.oth {s' : Sg} (h : Cf s s') : OthC s s' := fun c hc => h.1 c (by omega) (by omega) (by omega) (by omega) (by omega) (by omega)
theorem side_is {l2 : Int32} (s : Sg) : (∃ x, x < 2 ∧ l2 = nI x ∧ f_Mod_isSide l2 s = some (1, s)) ∨ ((∀ x, x < 2 → l2 ≠ nI x) ∧ f_Mod_isSide l2 s = some (0, s)) := by
  unfold f_Mod_isSide
  by_cases h0 : l2 = 0
  · rw [if_pos h0]
    exact Or.inl ⟨0, by omega, h0, rfl⟩
  · rw [if_neg h0]
    by_cases h1 : l2 = 1
    · rw [if_pos h1]
      exact Or.inl ⟨1, by omega, h1, rfl⟩
    · rw [if_neg h1]
      refine Or.inr ⟨fun x hx e => ?_, rfl⟩
      have hh : x = 0 ∨ x = 1 := by omega
      rcases hh with rfl | rfl
      · exact h0 e
      · exact h1 e
theorem stg_out (hI : SI t d cur) {base N n : Nat} {l1 l2 : Int32} (hv : ∀ p x, p < N → x < 2 → n ≤ p → ¬ Vd d (base + 2 * p + x)) (hno : ∀ p x, l1 = nI p → p < n → l2 = nI x → x < 2 → False) : SpSt d base N l1 l2 0 := by
  rcases Classical.em (∃ p x, l1 = nI p ∧ p < N ∧ l2 = nI x ∧ x < 2) with ⟨p, x, e1, hp, e2, hx⟩ | hn
  · refine Or.inl ⟨p, x, e1, hp, e2, hx, ?_⟩
    rw [stg_0 hI (hv p x hp hx (by
      rcases Nat.lt_or_ge p n with z | z
      · exact (hno p x e1 z e2 hx).elim
      · exact z))]
    rfl
  · exact Or.inr ⟨fun p x a b c e => hn ⟨p, x, a, b, c, e⟩, rfl⟩
theorem R_there (hI : SI t d cur) (h : RR t d cur lv s) (l1 l2 : Int32) : ∃ v s', f_Mod_there l1 l2 s = some (v, s') ∧ SpSt d 0 10 l1 l2 v ∧ RR t d cur lv s' ∧ OthC s s' := by
  have hPn := hI.2.1.1.1
  have h0 := h.code 0
  have hO := OthC.code s 0
  have hv : ∀ p x, p < 10 → x < 2 → d 0 0 ≤ p → ¬ Vd d (0 + 2 * p + x) := by
    intro p x hp hx hn z
    rcases z with z | z | z
    · have := z.2; omega
    · omega
    · omega
  unfold f_Mod_there
  rw [h.2.1.1.1]
  by_cases n0 : l1 < 0
  · rw [if_pos n0]
    exact ⟨_, _, rfl, stg_out hI hv (fun p x e hp _ _ => by rw [e] at n0; exact nI_pos (by omega) n0), h0, hO⟩
  rw [if_neg n0]
  by_cases n1 : nI (d 0 0) ≤ l1
  · rw [if_pos n1]
    exact ⟨_, _, rfl, stg_out hI hv (fun p x e hp _ _ => by rw [e] at n1; have := (nI_leI (by omega) (by omega)).mp n1; omega), h0, hO⟩
  rw [if_neg n1]
  obtain ⟨p, hp, rfl⟩ := nI_of_lt (by omega) n0 n1
  rcases side_is (l2 := l2) (wr s 31 0 0) with ⟨x, hx, rfl, e⟩ | ⟨hn, e⟩
  · rw [e, bnd_some, if_neg (by decide), n2p, if_pos (inb_nI (by omega) (by omega)), ix_nI (by omega), h0.2.2.1.1 _ (by omega)]
    exact ⟨_, _, rfl, Or.inl ⟨p, x, rfl, by omega, rfl, hx, by rw [Nat.zero_add]⟩, h0, hO⟩
  · rw [e, bnd_some, if_pos rfl]
    exact ⟨_, _, rfl, Or.inr ⟨fun p x _ _ e hx => hn x hx e, rfl⟩, h0, hO⟩
theorem R_live (hI : SI t d cur) (h : RR t d cur lv s) (l1 l2 : Int32) : ∃ v s', f_Mod_live l1 l2 s = some (v, s') ∧ SpSt d 20 40 l1 l2 v ∧ RR t d cur lv s' ∧ OthC s s' := by
  have hUn := hI.2.1.1.2.2.1
  have h0 := h.code 0
  have hO := OthC.code s 0
  have hv : ∀ p x, p < 40 → x < 2 → d 8 0 ≤ p → ¬ Vd d (20 + 2 * p + x) := by
    intro p x hp hx hn z
    rcases z with z | z | z
    · omega
    · have := z.2.2.1; omega
    · omega
  unfold f_Mod_live
  rw [h.2.1.1.2.2.1]
  by_cases n0 : l1 < 0
  · rw [if_pos n0]
    exact ⟨_, _, rfl, stg_out hI hv (fun p x e hp _ _ => by rw [e] at n0; exact nI_pos (by omega) n0), h0, hO⟩
  rw [if_neg n0]
  by_cases n1 : nI (d 8 0) ≤ l1
  · rw [if_pos n1]
    exact ⟨_, _, rfl, stg_out hI hv (fun p x e hp _ _ => by rw [e] at n1; have := (nI_leI (by omega) (by omega)).mp n1; omega), h0, hO⟩
  rw [if_neg n1]
  obtain ⟨p, hp, rfl⟩ := nI_of_lt (by omega) n0 n1
  rcases side_is (l2 := l2) (wr s 31 0 0) with ⟨x, hx, rfl, e⟩ | ⟨hn, e⟩
  · rw [e, bnd_some, if_neg (by decide), n2p, if_pos (inb_nI (by omega) (by omega)), ix_nI (by omega), h0.2.2.1.2.1 _ (by omega)]
    exact ⟨_, _, rfl, Or.inl ⟨p, x, rfl, by omega, rfl, hx, by rw [Nat.add_assoc]⟩, h0, hO⟩
  · rw [e, bnd_some, if_pos rfl]
    exact ⟨_, _, rfl, Or.inr ⟨fun p x _ _ e hx => hn x hx e, rfl⟩, h0, hO⟩
theorem R_on (hI : SI t d cur) (h : RR t d cur lv s) (l1 l2 : Int32) : ∃ v s', f_Mod_on l1 l2 s = some (v, s') ∧ SpSt d 100 60 l1 l2 v ∧ RR t d cur lv s' ∧ OthC s s' := by
  have hFn := hI.2.1.1.2.1
  have h0 := h.code 0
  have hO := OthC.code s 0
  have hv : ∀ p x, p < 60 → x < 2 → d 4 0 ≤ p → ¬ Vd d (100 + 2 * p + x) := by
    intro p x hp hx hn z
    rcases z with z | z | z
    · omega
    · omega
    · have := z.2.2; omega
  unfold f_Mod_on
  rw [h.2.1.1.2.1]
  by_cases n0 : l1 < 0
  · rw [if_pos n0]
    exact ⟨_, _, rfl, stg_out hI hv (fun p x e hp _ _ => by rw [e] at n0; exact nI_pos (by omega) n0), h0, hO⟩
  rw [if_neg n0]
  by_cases n1 : nI (d 4 0) ≤ l1
  · rw [if_pos n1]
    exact ⟨_, _, rfl, stg_out hI hv (fun p x e hp _ _ => by rw [e] at n1; have := (nI_leI (by omega) (by omega)).mp n1; omega), h0, hO⟩
  rw [if_neg n1]
  obtain ⟨p, hp, rfl⟩ := nI_of_lt (by omega) n0 n1
  rcases side_is (l2 := l2) (wr s 31 0 0) with ⟨x, hx, rfl, e⟩ | ⟨hn, e⟩
  · rw [e, bnd_some, if_neg (by decide), n2p, if_pos (inb_nI (by omega) (by omega)), ix_nI (by omega), h0.2.2.1.2.2 _ (by omega)]
    exact ⟨_, _, rfl, Or.inl ⟨p, x, rfl, by omega, rfl, hx, by rw [Nat.add_assoc]⟩, h0, hO⟩
  · rw [e, bnd_some, if_pos rfl]
    exact ⟨_, _, rfl, Or.inr ⟨fun p x _ _ e hx => hn x hx e, rfl⟩, h0, hO⟩
theorem R_left (hl : lv.length ≤ 120) (h : RR t d cur lv s) (l1 : Int32) : ∃ v s', f_Mod_left l1 s = some (v, s') ∧ SpLeft lv l1 v ∧ RR t d cur lv s' ∧ OthC s s' := by
  have h0 := h.code 0
  have hO := OthC.code s 0
  unfold f_Mod_left
  rw [h.2.2.2.2.1.1]
  by_cases n0 : l1 < 0
  · rw [if_pos n0]
    exact ⟨_, _, rfl, Or.inr ⟨fun i hi e => by rw [e] at n0; exact nI_pos (by omega) n0, rfl⟩, h0, hO⟩
  rw [if_neg n0]
  obtain ⟨i, hi', rfl⟩ := nI_of_nn n0
  by_cases n1 : i < lv.length
  · have e : lv[i]? = some lv[i] := List.getElem?_eq_getElem n1
    rw [if_pos ((nI_ltI (by omega) (by omega)).mpr n1), if_pos (inb_nI (by omega) (by omega)), ix_nI (by omega), h.2.2.2.2.1.2 i _ e]
    exact ⟨_, _, rfl, Or.inl ⟨i, _, rfl, n1, e, rfl⟩, h0, hO⟩
  · rw [if_neg (fun z => n1 ((nI_ltI (by omega) (by omega)).mp z))]
    exact ⟨_, _, rfl, Or.inr ⟨fun j hj e => n1 (by have := nI_inj (by omega) (by omega) e; omega), rfl⟩, h0, hO⟩
/-- copying an array, place by place -/
theorem M_reasoned (hI : SI t d cur) (h : RR t d cur lv s) (l1 l2 : Int32) : (∃ f x s', l1 = nI f ∧ f < d 4 0 ∧ l2 = nI x ∧ x < 2 ∧ f_Mod_reasoned l1 l2 s = some (1, s') ∧ GL (Rl d f x) s' ∧ Cf s s') ∨ ((∀ f x, l1 = nI f → f < d 4 0 → l2 = nI x → x < 2 → False) ∧ f_Mod_reasoned l1 l2 s = some (0, s)) := by
  have hFn := hI.2.1.1.2.1
  unfold f_Mod_reasoned
  rw [h.2.1.1.2.1]
  by_cases n0 : l1 < 0
  · rw [if_pos n0]
    exact Or.inr ⟨fun f x e hf _ _ => by rw [e] at n0; exact nI_pos (by omega) n0, rfl⟩
  rw [if_neg n0]
  by_cases n1 : nI (d 4 0) ≤ l1
  · rw [if_pos n1]
    exact Or.inr ⟨fun f x e hf _ _ => by rw [e] at n1; have := (nI_leI (by omega) (by omega)).mp n1; omega, rfl⟩
  rw [if_neg n1]
  obtain ⟨f, hf, rfl⟩ := nI_of_lt (by omega) n0 n1
  rcases side_is (l2 := l2) s with ⟨x, hx, rfl, e⟩ | ⟨hn, e⟩
  · rw [e, bnd_some, if_neg (by decide)]
    refine Or.inl ⟨f, x, ?_⟩
    have hER := ER_of hI.2.1 hI.2.2.1 hI.2.2.2.1 (NU_of hI.2.2.1 hI.1.2.2.1) h.1 h.2.1 h.2.2.2.2.2
    have hL : ∀ u y, u < d 8 0 → y < 2 → stg d (20 + 2 * u + y) ≠ 0 → d 14 u = 1 := fun u y hu hy => live_for (fun it hi => FX_valid hI.2.1.1 hI.2.2.2.2.1 hi) u y hu hy (by have := hI.2.1.1.2.2.1; omega)
    have eRl : sel (pb (RsP d (fun y => 1 ≤ stg d y ∧ stg d y < 1000) f x)) 896 = Rl d f x := by
      unfold Rl
      refine sel_congr 896 (fun k _ => ?_)
      have hb := hI.2.2.2.2.2.1
      have hiff : pb (RsP d (fun y => 1 ≤ stg d y ∧ stg d y < 1000) f x) k = true ↔ pb (RsP d (fun y => stg d y ≠ 0) f x) k = true := by
        rw [pb_iff, pb_iff]
        exact ⟨RsK_mono (fun y hy => by omega), RsK_mono (fun y hy => by have := hb y; omega)⟩
      cases h1 : pb (RsP d (fun y => 1 ≤ stg d y ∧ stg d y < 1000) f x) k <;> cases h2 : pb (RsP d (fun y => stg d y ≠ 0) f x) k
      · rfl
      · exact absurd (hiff.mpr h2) (by rw [h1]; decide)
      · exact absurd (hiff.mp h1) (by rw [h2]; decide)
      · rfl
    obtain ⟨h55, h56, h57⟩ := h.2.2.1
    have goal : (fun o : Ro => ∃ s', o = some (1, s') ∧ GL (Rl d f x) s' ∧ Cf s s') (f_Mod_reasoned_23 (nI f) (nI x) 0 s) := by
      unfold f_Mod_reasoned_23
      refine itr1_run (N := 20) (I := fun k z s1 => z = nI k ∧ (∀ j, j < k → s1 52 j = nI (stg d j)) ∧ Cf s s1) (E := fun o : Ro => ∃ s', o = some (1, s') ∧ GL (Rl d f x) s' ∧ Cf s s') ?_ ?_ 20 4096 0 0 s (by omega) (by omega) ⟨nI_0.symm, fun j hj => absurd hj (Nat.not_lt_zero _), Cf.refl s⟩
      · rintro rec k z s1 hk ⟨rfl, hz, hC⟩
        refine Or.inl ?_
        rw [if_neg (fun z => by have := (nI_leI (a := 20) (by omega) (by omega)).mp z; omega), if_pos (inb_nI hk (by omega)), if_pos (inb_nI hk (by omega)), ix_nI (by omega), ← nI_succ, hC.1 55 (by omega) (by omega) (by omega) (by omega) (by omega) (by omega), h55 k hk]
        refine ⟨_, _, ⟨rfl, fun j hj => ?_, hC.trans (Cf.w (by omega))⟩, rfl⟩
        by_cases g : j = k
        · subst g; rw [wr_s]
        · rw [wr_k _ _ _ g]; exact hz j (by omega)
      · rintro rec z s1 ⟨rfl, hz2, hC⟩
        rw [if_pos (show (20 : Int32) ≤ nI 20 from (nI_leI (a := 20) (by omega) (by omega)).mpr (Nat.le_refl _))]
        unfold f_Mod_reasoned_49
        refine itr1_run (N := 80) (I := fun k z s1 => z = nI k ∧ (∀ j, j < 20 → s1 52 j = nI (stg d j)) ∧ (∀ j, j < k → s1 53 j = nI (stg d (20 + j))) ∧ Cf s s1) (E := fun o : Ro => ∃ s', o = some (1, s') ∧ GL (Rl d f x) s' ∧ Cf s s') ?_ ?_ 80 4096 0 0 s1 (by omega) (by omega) ⟨nI_0.symm, hz2, fun j hj => absurd hj (Nat.not_lt_zero _), hC⟩
        · rintro rec k z s1 hk ⟨rfl, hz2, hz, hC⟩
          refine Or.inl ?_
          rw [if_neg (fun z => by have := (nI_leI (a := 80) (by omega) (by omega)).mp z; omega), if_pos (inb_nI hk (by omega)), if_pos (inb_nI hk (by omega)), ix_nI (by omega), ← nI_succ, hC.1 56 (by omega) (by omega) (by omega) (by omega) (by omega) (by omega), h56 k hk]
          refine ⟨_, _, ⟨rfl, fun j hj => ?_, fun j hj => ?_, hC.trans (Cf.w (by omega))⟩, rfl⟩
          · rw [wr_c _ _ _ (by omega)]; exact hz2 j hj
          · by_cases g : j = k
            · subst g; rw [wr_s]
            · rw [wr_k _ _ _ g]; exact hz j (by omega)
        · rintro rec z s1 ⟨rfl, hz2, hz3, hC⟩
          rw [if_pos (show (80 : Int32) ≤ nI 80 from (nI_leI (a := 80) (by omega) (by omega)).mpr (Nat.le_refl _))]
          unfold f_Mod_reasoned_75
          refine itr1_run (N := 120) (I := fun k z s1 => z = nI k ∧ (∀ j, j < 20 → s1 52 j = nI (stg d j)) ∧ (∀ j, j < 80 → s1 53 j = nI (stg d (20 + j))) ∧ (∀ j, j < k → s1 54 j = nI (stg d (100 + j))) ∧ Cf s s1) (E := fun o : Ro => ∃ s', o = some (1, s') ∧ GL (Rl d f x) s' ∧ Cf s s') ?_ ?_ 120 4096 0 0 s1 (by omega) (by omega) ⟨nI_0.symm, hz2, hz3, fun j hj => absurd hj (Nat.not_lt_zero _), hC⟩
          · rintro rec k z s1 hk ⟨rfl, hz2, hz3, hz, hC⟩
            refine Or.inl ?_
            rw [if_neg (fun z => by have := (nI_leI (a := 120) (by omega) (by omega)).mp z; omega), if_pos (inb_nI hk (by omega)), if_pos (inb_nI hk (by omega)), ix_nI (by omega), ← nI_succ, hC.1 57 (by omega) (by omega) (by omega) (by omega) (by omega) (by omega), h57 k hk]
            refine ⟨_, _, ⟨rfl, fun j hj => ?_, fun j hj => ?_, fun j hj => ?_, hC.trans (Cf.w (by omega))⟩, rfl⟩
            · rw [wr_c _ _ _ (by omega)]; exact hz2 j hj
            · rw [wr_c _ _ _ (by omega)]; exact hz3 j hj
            · by_cases g : j = k
              · subst g; rw [wr_s]
              · rw [wr_k _ _ _ g]; exact hz j (by omega)
          · rintro rec z s1 ⟨rfl, hz2, hz3, hz4, hC⟩
            rw [if_pos (show (120 : Int32) ≤ nI 120 from (nI_leI (a := 120) (by omega) (by omega)).mpr (Nat.le_refl _))]
            have hM : MRep (stg d) s1 := ⟨hz2, hz3, hz4, fun y => by have := hI.2.2.2.2.2.1 y; omega⟩
            obtain ⟨s', e1, g1, g2⟩ := M_gather hI.2.1 (hER.fr hC) hM hL (f := f) (x := x) (r := 1000) hf hx (by omega)
            have e1' : f_Mod_gather (nI f) (nI x) 1000 s1 = some (0, s') := e1
            rw [e1', bnd_some]
            rw [eRl] at g1
            exact ⟨s', rfl, g1, hC.trans g2.cf⟩
    obtain ⟨s', e1, g1, g2⟩ := goal
    exact ⟨s', rfl, hf, rfl, hx, e1, g1, g2⟩
  · rw [e, bnd_some, if_pos rfl]
    exact Or.inr ⟨fun f x _ _ e hx => hn x hx e, rfl⟩
theorem R_reasons (hI : SI t d cur) (h : RR t d cur lv s) (l1 l2 : Int32) : ∃ v s', f_Mod_reasons l1 l2 s = some (v, s') ∧ SpReas d l1 l2 v ∧ RR t d cur lv s' ∧ OthC s s' := by
  have h0 := h.code 0
  have hO := OthC.code s 0
  unfold f_Mod_reasons
  rcases M_reasoned hI h0 l1 l2 with ⟨f, x, s', rfl, hf, rfl, hx, e, g1, g2⟩ | ⟨hn, e⟩
  · rw [e, bnd_some, if_neg (by decide), g1.1]
    exact ⟨_, _, rfl, Or.inl ⟨f, x, rfl, hf, rfl, hx, rfl⟩, h0.cf g2, fun c hc => (g2.oth c hc).trans (hO c hc)⟩
  · rw [e, bnd_some, if_pos rfl]
    exact ⟨_, _, rfl, Or.inr ⟨hn, rfl⟩, h0, hO⟩
theorem R_reason (hI : SI t d cur) (h : RR t d cur lv s) (l1 l2 l3 l4 : Int32) : ∃ v s', f_Mod_reason l1 l2 l3 l4 s = some (v, s') ∧ SpReason d l1 l2 l3 l4 v ∧ RR t d cur lv s' ∧ OthC s s' := by
  have hFn := hI.2.1.1.2.1
  have h0 := h.code 0
  have hO := OthC.code s 0
  unfold f_Mod_reason
  rcases M_reasoned hI h0 l1 l2 with ⟨f, x, s', rfl, hf, rfl, hx, e, g1, g2⟩ | ⟨hn, e⟩
  · rw [e, bnd_some, if_neg (by decide), g1.1]
    have hR := h0.cf g2
    have hO2 : OthC s s' := fun c hc => (g2.oth c hc).trans (hO c hc)
    have hlen : (Rl d f x).length ≤ 386 := Rs_len d _ f x
    have uniq : ∀ f' x' : Nat, nI f = nI f' → f' < d 4 0 → nI x = nI x' → x' < 2 → f' = f ∧ x' = x := fun f' x' a b c g => ⟨(nI_inj (by omega) (by omega) a).symm, (nI_inj (by omega) (by omega) c).symm⟩
    by_cases n0 : l3 < 0
    · rw [if_pos n0]
      refine ⟨_, _, rfl, Or.inr ⟨fun f' x' j k _ _ _ _ a5 a6 _ => ?_, rfl⟩, hR, hO2⟩
      rw [a5] at n0
      exact nI_pos a6 n0
    rw [if_neg n0]
    obtain ⟨j, hj, rfl⟩ := nI_of_nn n0
    by_cases n1 : j < (Rl d f x).length
    · have eg : (Rl d f x)[j]? = some (Rl d f x)[j] := List.getElem?_eq_getElem n1
      obtain ⟨c1, c2⟩ := g1.2 j _ eg
      rw [if_pos ((nI_ltI (by omega) (by omega)).mpr n1)]
      by_cases w0 : l4 = 0
      · rw [if_pos w0, if_pos (inb_nI (by omega) (by omega)), ix_nI (by omega), c1]
        exact ⟨_, _, rfl, Or.inl ⟨f, x, j, _, rfl, hf, rfl, hx, rfl, hj, eg, Or.inl ⟨w0, rfl⟩⟩, hR, hO2⟩
      · rw [if_neg w0]
        by_cases w1 : l4 = 1
        · rw [if_pos w1, if_pos (inb_nI (by omega) (by omega)), ix_nI (by omega), c2]
          exact ⟨_, _, rfl, Or.inl ⟨f, x, j, _, rfl, hf, rfl, hx, rfl, hj, eg, Or.inr (Or.inl ⟨w1, rfl⟩)⟩, hR, hO2⟩
        · rw [if_neg w1]
          exact ⟨_, _, rfl, Or.inl ⟨f, x, j, _, rfl, hf, rfl, hx, rfl, hj, eg, Or.inr (Or.inr ⟨w0, w1, rfl⟩)⟩, hR, hO2⟩
    · rw [if_neg (fun z => n1 ((nI_ltI (by omega) (by omega)).mp z))]
      refine ⟨_, _, rfl, Or.inr ⟨fun f' x' j' k a1 a2 a3 a4 a5 a6 a7 => ?_, rfl⟩, hR, hO2⟩
      obtain ⟨rfl, rfl⟩ := uniq f' x' a1 a2 a3 a4
      have := nI_inj (by omega) (by omega) a5
      subst this
      exact n1 (List.getElem?_eq_some_iff.mp a7).1
  · rw [e, bnd_some, if_pos rfl]
    exact ⟨_, _, rfl, Or.inr ⟨fun f x j k a1 a2 a3 a4 _ _ _ => hn f x a1 a2 a3 a4, rfl⟩, h0, hO⟩
end Rq1
