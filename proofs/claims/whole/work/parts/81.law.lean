/-- both sides hold the same -/
def Inv (s : Sg) : Prop := ∃ t d cur lv, SI t d cur ∧ lv.length ≤ 120 ∧ CR t d cur lv s ∧ RR t d cur lv s
theorem isb_nz (x : Int32) : isb (nz x) = true := by
  unfold nz
  split <;> rfl
section Lw
variable {s : Sg}
theorem o_pack (h : Inv s) {b : Int32} (hb : isb b = true) : ∃ v s1 s2, f_FU_pack b s = some (v, s1) ∧ f_Mod_pack b s1 = some (v, s2) ∧ Inv s2 := by
  obtain ⟨t, d, cur, lv, hI, hl, hC, hR⟩ := h
  obtain ⟨v, s1, t1, c1, e1, p1, q1, o1⟩ := C_pack hI.1.1 hC hb
  obtain ⟨w, s2, t2, c2, e2, p2, q2, o2⟩ := R_pack hI.1.1 (hR.oth o1) hb
  obtain ⟨rfl, rfl, rfl⟩ := p1.det p2
  exact ⟨v, s1, s2, e1, e2, _, _, _, _, p1.inv hI hb, hl, q1.othc o2, q2⟩
theorem o_feature (h : Inv s) (l1 l2 l4 : Int32) {b : Int32} (hb : isb b = true) : ∃ v s1 s2, f_FU_feature l1 l2 b l4 s = some (v, s1) ∧ f_Mod_feature l1 l2 b l4 s1 = some (v, s2) ∧ Inv s2 := by
  obtain ⟨t, d, cur, lv, hI, hl, hC, hR⟩ := h
  obtain ⟨v, s1, t1, c1, e1, p1, q1, o1⟩ := C_feature hI.1.1 hC l1 l2 l4 hb
  obtain ⟨w, s2, t2, c2, e2, p2, q2, o2⟩ := R_feature hI.1.1 hI.1.2.2.2.2.1 (hR.oth o1) l1 l2 l4 hb
  obtain ⟨rfl, rfl, rfl⟩ := p1.det hI.1.1 p2
  exact ⟨v, s1, s2, e1, e2, _, _, _, _, p1.inv hI hb, hl, q1.othc o2, q2⟩
theorem o_root (h : Inv s) (l1 : Int32) {b : Int32} (hb : isb b = true) : ∃ v s1 s2, f_FU_root l1 b s = some (v, s1) ∧ f_Mod_root l1 b s1 = some (v, s2) ∧ Inv s2 := by
  obtain ⟨t, d, cur, lv, hI, hl, hC, hR⟩ := h
  obtain ⟨v, s1, t1, c1, e1, p1, q1, o1⟩ := C_root hI.1.1 hC l1 hb hI.1.2.2.2.2.2
  obtain ⟨w, s2, t2, c2, e2, p2, q2, o2⟩ := R_root hI.1.1 (hR.oth o1) l1 hb
  obtain ⟨rfl, rfl, rfl⟩ := p1.det hI.1.1 p2
  exact ⟨v, s1, s2, e1, e2, _, _, _, _, p1.inv hI, hl, q1.othc o2, q2⟩
theorem o_user (h : Inv s) (l1 l2 l6 : Int32) {b1 b2 b3 : Int32} (hb1 : isb b1 = true) (hb2 : isb b2 = true) (hb3 : isb b3 = true) : ∃ v s1 s2, f_FU_user l1 l2 b1 b2 b3 l6 s = some (v, s1) ∧ f_Mod_user l1 l2 b1 b2 b3 l6 s1 = some (v, s2) ∧ Inv s2 := by
  obtain ⟨t, d, cur, lv, hI, hl, hC, hR⟩ := h
  obtain ⟨v, s1, t1, c1, e1, p1, q1, o1⟩ := C_user hI.1.1 hC l1 l2 l6 hb1 hb2 hb3
  obtain ⟨w, s2, t2, c2, e2, p2, q2, o2⟩ := R_user hI.1.1 (hR.oth o1) l1 l2 l6 hb1 hb2 hb3
  obtain ⟨rfl, rfl, rfl⟩ := p1.det hI.1.1 p2
  exact ⟨v, s1, s2, e1, e2, _, _, _, _, p1.inv hI hb1 hb2 hb3, hl, q1.othc o2, q2⟩
theorem o_asks (h : Inv s) (l1 l2 : Int32) : ∃ v s1 s2, f_FU_asks l1 l2 s = some (v, s1) ∧ f_Mod_asks l1 l2 s1 = some (v, s2) ∧ Inv s2 := by
  obtain ⟨t, d, cur, lv, hI, hl, hC, hR⟩ := h
  obtain ⟨v, s1, t1, c1, e1, p1, q1, o1⟩ := C_asks hI.1.1 hC l1 l2
  obtain ⟨w, s2, t2, c2, e2, p2, q2, o2⟩ := R_asks hI.1 (hR.oth o1) l1 l2
  obtain ⟨rfl, rfl, rfl⟩ := p1.det hI.1 p2
  exact ⟨v, s1, s2, e1, e2, _, _, _, _, p1.inv hI, hl, q1.othc o2, q2⟩
theorem o_turn (h : Inv s) (l1 l2 l3 l4 : Int32) : ∃ v s1 s2, f_FU_turn l1 l2 l3 l4 s = some (v, s1) ∧ f_Mod_turn l1 l2 l3 l4 s1 = some (v, s2) ∧ Inv s2 := by
  obtain ⟨t, d, cur, lv, hI, hl, hC, hR⟩ := h
  obtain ⟨v, s1, t1, c1, e1, p1, q1, o1⟩ := C_turn hI.1.1 hI.1.2.1 hI.1.2.2.1 hC l1 l2 l3 l4
  obtain ⟨w, s2, t2, c2, e2, p2, q2, o2⟩ := R_turn hI.1 (hR.oth o1) l1 l2 l3 l4
  obtain ⟨rfl, rfl, rfl⟩ := p1.det hI.1 p2
  exact ⟨v, s1, s2, e1, e2, _, _, _, _, p1.inv hI, hl, q1.othc o2, q2⟩
theorem o_run (h : Inv s) (l1 : Int32) : ∃ v s1 s2, f_FU_run l1 s = some (v, s1) ∧ f_Mod_run l1 s1 = some (v, s2) ∧ Inv s2 := by
  obtain ⟨t, d, cur, lv, hI, hl, hC, hR⟩ := h
  obtain ⟨v, s1, d1, c1, e1, p1, q1, o1, hx⟩ := C_run hI.1.1 hI.1.2.1 hI.1.2.2.2.2.2 hC l1
  obtain ⟨w, s2, d2, c2, e2, p2, q2, o2⟩ := R_run hI.1 (hR.oth o1) l1
  obtain ⟨rfl, rfl, rfl⟩ := p1.det p2
  exact ⟨v, s1, s2, e1, e2, _, _, _, _, p1.inv hI hx, hl, q1.othc o2, q2⟩
theorem o_there (h : Inv s) (l1 l2 : Int32) : ∃ v s1 s2, f_FU_there l1 l2 s = some (v, s1) ∧ f_Mod_there l1 l2 s1 = some (v, s2) ∧ Inv s2 := by
  obtain ⟨t, d, cur, lv, hI, hl, hC, hR⟩ := h
  obtain ⟨v, e1, p1⟩ := C_there hI hC l1 l2
  obtain ⟨w, s2, e2, p2, q2, o2⟩ := R_there hI hR l1 l2
  obtain rfl := p1.det (by omega) p2
  exact ⟨v, s, s2, e1, e2, _, _, _, _, hI, hl, hC.othc o2, q2⟩
theorem o_live (h : Inv s) (l1 l2 : Int32) : ∃ v s1 s2, f_FU_live l1 l2 s = some (v, s1) ∧ f_Mod_live l1 l2 s1 = some (v, s2) ∧ Inv s2 := by
  obtain ⟨t, d, cur, lv, hI, hl, hC, hR⟩ := h
  obtain ⟨v, e1, p1⟩ := C_live hI hC l1 l2
  obtain ⟨w, s2, e2, p2, q2, o2⟩ := R_live hI hR l1 l2
  obtain rfl := p1.det (by omega) p2
  exact ⟨v, s, s2, e1, e2, _, _, _, _, hI, hl, hC.othc o2, q2⟩
theorem o_on (h : Inv s) (l1 l2 : Int32) : ∃ v s1 s2, f_FU_on l1 l2 s = some (v, s1) ∧ f_Mod_on l1 l2 s1 = some (v, s2) ∧ Inv s2 := by
  obtain ⟨t, d, cur, lv, hI, hl, hC, hR⟩ := h
  obtain ⟨v, e1, p1⟩ := C_on hI hC l1 l2
  obtain ⟨w, s2, e2, p2, q2, o2⟩ := R_on hI hR l1 l2
  obtain rfl := p1.det (by omega) p2
  exact ⟨v, s, s2, e1, e2, _, _, _, _, hI, hl, hC.othc o2, q2⟩
theorem o_reasons (h : Inv s) (l1 l2 : Int32) : ∃ v s1 s2, f_FU_reasons l1 l2 s = some (v, s1) ∧ f_Mod_reasons l1 l2 s1 = some (v, s2) ∧ Inv s2 := by
  obtain ⟨t, d, cur, lv, hI, hl, hC, hR⟩ := h
  obtain ⟨v, e1, p1⟩ := C_reasons hI hC l1 l2
  obtain ⟨w, s2, e2, p2, q2, o2⟩ := R_reasons hI hR l1 l2
  obtain rfl := p1.det hI.2.1.1 p2
  exact ⟨v, s, s2, e1, e2, _, _, _, _, hI, hl, hC.othc o2, q2⟩
theorem o_reason (h : Inv s) (l1 l2 l3 l4 : Int32) : ∃ v s1 s2, f_FU_reason l1 l2 l3 l4 s = some (v, s1) ∧ f_Mod_reason l1 l2 l3 l4 s1 = some (v, s2) ∧ Inv s2 := by
  obtain ⟨t, d, cur, lv, hI, hl, hC, hR⟩ := h
  obtain ⟨v, e1, p1⟩ := C_reason hI hC l1 l2 l3 l4
  obtain ⟨w, s2, e2, p2, q2, o2⟩ := R_reason hI hR l1 l2 l3 l4
  obtain rfl := p1.det hI.2.1.1 p2
  exact ⟨v, s, s2, e1, e2, _, _, _, _, hI, hl, hC.othc o2, q2⟩
theorem o_clash (h : Inv s) (l1 l2 : Int32) : ∃ v s1 s2, f_FU_clash l1 l2 s = some (v, s1) ∧ f_Mod_clash l1 l2 s1 = some (v, s2) ∧ Inv s2 := by
  obtain ⟨t, d, cur, lv, hI, hl, hC, hR⟩ := h
  obtain ⟨v, e1, p1⟩ := C_clash hI hC l1 l2
  obtain ⟨w, s2, e2, p2, q2, o2⟩ := R_clash hI hR l1 l2
  obtain rfl := p1.det p2
  exact ⟨v, s, s2, e1, e2, _, _, _, _, hI, hl, hC.othc o2, q2⟩
theorem o_without (h : Inv s) (l1 l2 : Int32) : ∃ v s1 s2, f_FU_without l1 l2 s = some (v, s1) ∧ f_Mod_without l1 l2 s1 = some (v, s2) ∧ Inv s2 := by
  obtain ⟨t, d, cur, lv, hI, hl, hC, hR⟩ := h
  obtain ⟨v, s1, lv1, e1, p1, q1, o1, -⟩ := C_without hI hC l1 l2
  obtain ⟨w, s2, lv2, e2, p2, q2, o2⟩ := R_without hI (hR.oth o1) l1 l2
  obtain ⟨rfl, rfl⟩ := p1.det hI.1.1 p2
  exact ⟨v, s1, s2, e1, e2, _, _, _, _, hI, p1.len hI.2.1.1 hl, q1.othc o2, q2⟩
theorem o_left (h : Inv s) (l1 : Int32) : ∃ v s1 s2, f_FU_left l1 s = some (v, s1) ∧ f_Mod_left l1 s1 = some (v, s2) ∧ Inv s2 := by
  obtain ⟨t, d, cur, lv, hI, hl, hC, hR⟩ := h
  obtain ⟨v, e1, p1⟩ := C_left hl hC l1
  obtain ⟨w, s2, e2, p2, q2, o2⟩ := R_left hl hR l1
  obtain rfl := p1.det hl p2
  exact ⟨v, s, s2, e1, e2, _, _, _, _, hI, hl, hC.othc o2, q2⟩
end Lw
/-- nothing told -/
def d00 : Dt := fun _ _ => 0
theorem Dv00 {P : Nat → Prop} {it : Nat} : ¬ Dv d00 P it := by
  intro h
  rcases h with ⟨_, h1, _⟩ | ⟨_, _, h1, _⟩ | ⟨_, _, h1, _⟩ | ⟨_, h1, _⟩ | ⟨_, _, _, h1, _⟩ | ⟨_, _, h1, _⟩ | ⟨_, _, h1, _⟩ | ⟨_, _, h1, _⟩ | ⟨_, _, h1, _⟩ | ⟨_, _, h1, _⟩ <;> exact absurd h1 (Nat.not_lt_zero _)
theorem FX00 : FX d00 (fun _ => 0) := ⟨fun it n (hn : 0 = n + 1) => absurd hn (by omega), fun it n h => absurd h Dv00⟩
theorem stg00 : stg d00 = fun _ => 0 := stg_eq FX00
theorem z31 {k : Nat} (h : k ≠ 40) : s00 31 k = 0 := by
  unfold s00
  rw [if_pos rfl, if_neg h]
theorem z_c {c : Nat} (h : c ≠ 31) (k : Nat) : s00 c k = 0 := by
  unfold s00
  rw [if_neg h]
theorem inv00 : Inv s00 := by
  have nl : ∀ {x : Nat} {p : Prop}, x < 0 → p := fun h => absurd h (Nat.not_lt_zero _)
  have hD : DOk d00 := ⟨Nat.zero_le _, Nat.zero_le _, Nat.zero_le _, Nat.zero_le _, fun _ h => nl h, fun _ h => nl h, fun _ h => nl h⟩
  have hF : DF d00 := ⟨fun _ h => nl h, fun _ h => nl h, fun _ h => nl h⟩
  have hA : AskOk d00 := ⟨Nat.zero_le _, fun _ h => nl h, fun _ _ h => nl h, fun u n _ => ⟨fun (h : 0 = 1) => absurd h (by omega), fun ⟨_, h, _⟩ => nl h⟩⟩
  have hT : TOk d00 := ⟨hD, hF, fun _ _ h => nl h, hA, fun p => Nat.zero_le _, fun p (h : 0 = 1) => absurd h (by omega)⟩
  have hb : ∀ n, bt (0 : Int32) n = decide ((0 : Nat) = 1) := fun n => by rw [b_0]; rfl
  refine ⟨d00, d00, false, [], ⟨hT, ⟨hD, hF, by decide⟩, ⟨⟨Nat.le_refl _, Nat.le_refl _, Nat.le_refl _, Nat.le_refl _, Nat.le_refl _⟩, fun _ h => nl h, fun _ h => nl h, fun _ h => nl h, fun _ h => nl h, fun _ h => nl h, fun p _ => ⟨fun (h : 0 = 1) => absurd h (by omega), fun (h : 0 = 1) => absurd h (by omega)⟩⟩, hA, by rw [stg00]; exact FX00, fun x => by rw [stg00]; exact Nat.zero_le _, fun h => by cases h⟩, by decide, ⟨?_, ?_, ?_, ?_, ?_, ?_⟩, ⟨?_, ?_, ⟨?_, ?_, ?_⟩, ?_, ⟨?_, ?_⟩, ?_⟩⟩
  · refine ⟨⟨z_c (by omega) 0, z_c (by omega) 0, z_c (by omega) 0, z_c (by omega) 0⟩, fun p _ => ⟨?_, ?_⟩, fun _ h => nl h, fun _ h => nl h, fun _ h => nl h, fun u n _ _ => ?_, fun _ h => nl h⟩
    · rw [z_c (by omega)]; exact hb p
    · rw [z_c (by omega)]; exact hb p
    · rw [z_c (by omega)]; exact hb n
  · refine ⟨⟨z_c (by omega) _, z_c (by omega) _, z_c (by omega) _, z_c (by omega) _, z_c (by omega) _⟩, fun p _ => ⟨?_, ?_⟩, fun u n _ _ => ?_⟩
    · rw [z_c (by omega)]; exact hb p
    · rw [z_c (by omega)]; exact hb p
    · rw [z_c (by omega)]; exact hb n
  · intro x _
    rw [z_c (by omega), stg00]
    rfl
  · exact z_c (by omega) _
  · exact z_c (by omega) _
  · intro i v h
    cases h
  · refine ⟨⟨z31 (by omega), z31 (by omega), z31 (by omega), z31 (by omega), z31 (by omega)⟩, fun _ h => nl h, fun p _ => ⟨z_c (by omega) _, z_c (by omega) _⟩, fun _ h => nl h, fun _ h => nl h, fun _ h => nl h, fun _ h => nl h⟩
  · exact ⟨⟨z31 (by omega), z31 (by omega), z31 (by omega), z31 (by omega), z31 (by omega), z31 (by omega)⟩, fun p _ => z_c (by omega) _⟩
  · intro k _
    rw [z_c (by omega), stg00]
    rfl
  · intro k _
    rw [z_c (by omega), stg00]
    rfl
  · intro k _
    rw [z_c (by omega), stg00]
    rfl
  · exact Or.inl ⟨z31 (by omega), rfl⟩
  · exact z31 (by omega)
  · intro i v h
    cases h
  · unfold s00
    rw [if_pos rfl, if_pos rfl]
theorem small7 : ∀ L, L < 7 → nI L - 7 < nI 0 := by decide
theorem law_ok {L : Nat} {xs : Nat → Int32} (hL : L ≤ 3584) : ∃ s', f_Law_law L xs s00 = some (1, s') := by
  show (fun o : Ro => ∃ s', o = some (1, s')) _
  unfold f_Law_law f_Law_law_18
  refine itr1_run (N := L / 7) (I := fun k y s => y = nI (7 * k) ∧ Inv s) (E := fun o : Ro => ∃ s', o = some (1, s')) ?_ ?_ (L / 7) 4096 0 0 s00 (by omega) (by omega) ⟨nI_0.symm, inv00⟩
  · rintro rec k y s hk ⟨rfl, hI⟩
    refine Or.inl ?_
    have hk7 : 7 * k + 7 ≤ L := by omega
    have eL : Int32.ofNat L - 7 = nI (L - 7) := pk_sub (a := L) (b := 7) (by omega)
    have e1 : nI (7 * k) + 1 = nI (7 * k + 1) := nI_add (7 * k) 1
    have e2 : nI (7 * k) + 2 = nI (7 * k + 2) := nI_add (7 * k) 2
    have e3 : nI (7 * k) + 3 = nI (7 * k + 3) := nI_add (7 * k) 3
    have e4 : nI (7 * k) + 4 = nI (7 * k + 4) := nI_add (7 * k) 4
    have e5 : nI (7 * k) + 5 = nI (7 * k + 5) := nI_add (7 * k) 5
    have e6 : nI (7 * k) + 6 = nI (7 * k + 6) := nI_add (7 * k) 6
    have e7 : nI (7 * k) + 7 = nI (7 * (k + 1)) := nI_add (7 * k) 7
    have i0 : inb (nI (7 * k)) L = true := inb_nI (by omega) (by omega)
    have i1 : inb (nI (7 * k + 1)) L = true := inb_nI (by omega) (by omega)
    have i2 : inb (nI (7 * k + 2)) L = true := inb_nI (by omega) (by omega)
    have i3 : inb (nI (7 * k + 3)) L = true := inb_nI (by omega) (by omega)
    have i4 : inb (nI (7 * k + 4)) L = true := inb_nI (by omega) (by omega)
    have i5 : inb (nI (7 * k + 5)) L = true := inb_nI (by omega) (by omega)
    have i6 : inb (nI (7 * k + 6)) L = true := inb_nI (by omega) (by omega)
    rw [eL, if_neg (fun z => by have := (nI_ltI (by omega) (by omega)).mp z; omega)]
    unfold f_Law_law_122 f_Law_law_139 f_Law_law_171 f_Law_law_203 f_Law_law_235 f_Law_law_257 f_Law_law_289 f_Law_law_302 f_Law_law_315 f_Law_law_348 f_Law_law_361 f_Law_law_374
    simp only [e1, e2, e3, e4, e5, e6, e7, i0, i1, i2, i3, i4, i5, i6, if_true]
    have fin : ∀ {o1 : Ro} {o2 : Sg → Ro}, (∃ v s1 s2, o1 = some (v, s1) ∧ o2 s1 = some (v, s2) ∧ Inv s2) → ∃ (y1 : Int32) (s' : Sg), (y1 = nI (7 * (k + 1)) ∧ Inv s') ∧ (bnd o1 fun v1 s1 => bnd (o2 s1) fun v2 s2 => if v1 = v2 then rec (nI (7 * (k + 1))) s2 else some (0, s2)) = rec y1 s' := by
      rintro o1 o2 ⟨v, s1, s2, a1, a2, a3⟩
      rw [a1, bnd_some, a2, bnd_some, if_pos rfl]
      exact ⟨_, _, ⟨rfl, a3⟩, rfl⟩
    by_cases c0 : xs (ix (nI (7 * k))) &&& 15 = 0
    · rw [if_pos c0]; exact fin (o_pack hI (isb_nz _))
    rw [if_neg c0]
    by_cases c1 : xs (ix (nI (7 * k))) &&& 15 = 1
    · rw [if_pos c1]; exact fin (o_feature hI _ _ _ (isb_nz _))
    rw [if_neg c1]
    by_cases c2 : xs (ix (nI (7 * k))) &&& 15 = 2
    · rw [if_pos c2]; exact fin (o_root hI _ (isb_nz _))
    rw [if_neg c2]
    by_cases c3 : xs (ix (nI (7 * k))) &&& 15 = 3
    · rw [if_pos c3]; exact fin (o_user hI _ _ _ (isb_nz _) (isb_nz _) (isb_nz _))
    rw [if_neg c3]
    by_cases c4 : xs (ix (nI (7 * k))) &&& 15 = 4
    · rw [if_pos c4]; exact fin (o_asks hI _ _)
    rw [if_neg c4]
    by_cases c5 : xs (ix (nI (7 * k))) &&& 15 = 5
    · rw [if_pos c5]; exact fin (o_turn hI _ _ _ _)
    rw [if_neg c5]
    by_cases c6 : xs (ix (nI (7 * k))) &&& 15 = 6
    · rw [if_pos c6]; exact fin (o_run hI _)
    rw [if_neg c6]
    by_cases c7 : xs (ix (nI (7 * k))) &&& 15 = 7
    · rw [if_pos c7]; exact fin (o_there hI _ _)
    rw [if_neg c7]
    by_cases c8 : xs (ix (nI (7 * k))) &&& 15 = 8
    · rw [if_pos c8]; exact fin (o_live hI _ _)
    rw [if_neg c8]
    by_cases c9 : xs (ix (nI (7 * k))) &&& 15 = 9
    · rw [if_pos c9]; exact fin (o_on hI _ _)
    rw [if_neg c9]
    by_cases c10 : xs (ix (nI (7 * k))) &&& 15 = 10
    · rw [if_pos c10]; exact fin (o_reasons hI _ _)
    rw [if_neg c10]
    by_cases c11 : xs (ix (nI (7 * k))) &&& 15 = 11
    · rw [if_pos c11]; exact fin (o_reason hI _ _ _ _)
    rw [if_neg c11]
    by_cases c12 : xs (ix (nI (7 * k))) &&& 15 = 12
    · rw [if_pos c12]; exact fin (o_clash hI _ _)
    rw [if_neg c12]
    by_cases c13 : xs (ix (nI (7 * k))) &&& 15 = 13
    · rw [if_pos c13]; exact fin (o_without hI _ _)
    rw [if_neg c13]
    by_cases c14 : xs (ix (nI (7 * k))) &&& 15 = 14
    · rw [if_pos c14]; exact fin (o_left hI _)
    rw [if_neg c14]
    exact ⟨_, _, ⟨rfl, hI⟩, rfl⟩
  · rintro rec y s ⟨rfl, hI⟩
    have hlt : Int32.ofNat L - 7 < nI (7 * (L / 7)) := by
      by_cases h7 : L < 7
      · have := small7 L h7
        rw [show 7 * (L / 7) = 0 by omega]
        exact this
      · rw [show Int32.ofNat L - 7 = nI (L - 7) from pk_sub (a := L) (b := 7) (by omega)]
        exact (nI_ltI (by omega) (by omega)).mpr (by omega)
    rw [if_pos hlt]
    exact ⟨_, rfl⟩
