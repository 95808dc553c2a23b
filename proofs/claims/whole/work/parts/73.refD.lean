section Rd2
variable {e : Dt} {s s1 : Sg} {st : Nat → Nat}
theorem n2n (n : Nat) : 2 * nI n = nI (2 * n) := by rw [show (2 : Int32) = nI 2 from rfl, pk_mul]
theorem half2 (n : Nat) : 2 * (n / 2) + n % 2 = n := by omega
/-- how gathering ends -/
def GEnd (e : Dt) (P : Nat → Prop) (f x : Nat) (s : Sg) (o : Ro) : Prop := ∃ s', o = some (0, s') ∧ GL (sel (pb (RsP e P f x)) 896) s' ∧ Gf s s'
theorem M_g271 (hG : DG e) (h : ER e s) (hM : MRep st s) {f x r : Nat} (hf : f < e 4 0) (hx : x < 2) (hr : r ≤ 1000) (hg : GL (sel (pb (RsP e (fun y => 1 ≤ st y ∧ st y < r) f x)) (128 * 3)) s1) (hF : Gf s s1) :
    GEnd e (fun y => 1 ≤ st y ∧ st y < r) f x s (f_Mod_gather_271 (nI f) (nI x) (nI r) (nI (e 5 f)) 3 s1) := by
  have hFn := hG.1.2.1
  have hPn := hG.1.1
  have hTn := hG.1.2.2.2.1
  have h5 := (hG.1.2.2.2.2.1 f hf).1
  have h3b := hG.2.1.1 _ h5
  have hlen := Rs_len e (fun y => 1 ≤ st y ∧ st y < r) f x
  generalize hpp : pb (RsP e (fun y => 1 ≤ st y ∧ st y < r) f x) = p at hlen hg
  have hp : ∀ k n, k < 7 → n < 128 → (p (128 * k + n) = true ↔ RsK e (fun y => 1 ≤ st y ∧ st y < r) f x k n) := by
    intro k n _ hn
    rw [← hpp, pb_iff, RsP_at k hn]
  unfold f_Mod_gather_271
  refine itr1_run (N := 6) (I := fun k z s1 => z = nI k ∧ 3 ≤ k ∧ GL (sel p (128 * k)) s1 ∧ Gf s s1) (E := GEnd e (fun y => 1 ≤ st y ∧ st y < r) f x s) ?_ ?_ 3 4096 3 3 s1 (by omega) (by omega) ⟨rfl, by omega, hg, hF⟩
  · rintro rec271 κ z s1 hκ ⟨rfl, hκ3, hg, hF⟩
    refine Or.inl ?_
    rw [if_neg (fun z => by have := (nI_leI (a := 6) (by omega) (by omega)).mp z; omega)]
    unfold f_Mod_gather_281
    refine itr1_run (N := 2 * e 16 0) (I := fun n z s1 => z = nI n ∧ GL (sel p (128 * κ + n)) s1 ∧ Gf s s1) (E := fun o => ∃ (y1 : Int32) (s' : Sg), (y1 = nI (κ + 1) ∧ 3 ≤ κ + 1 ∧ GL (sel p (128 * (κ + 1))) s' ∧ Gf s s') ∧ o = rec271 y1 s') ?_ ?_ (2 * e 16 0) 4096 0 0 s1 (by omega) (by omega) ⟨nI_0.symm, hg, hF⟩
    · rintro rec281 n z s1 hn ⟨rfl, hg, hF⟩
      have h1 := h.fr hF.cf
      have hM1 := hM.gf hF
      refine Or.inl ?_
      rw [h1.1.2.2.2.2.1, n2n, if_neg (fun z => by have := (nI_leI (by omega) (by omega)).mp z; omega), n_side (by omega), n_half (by omega), ← nI_succ]
      have ht := M_turnsOn hG h1 hM1 (κ := κ) (n := n) (f := f) (x := x) (r := r) (by omega) (by omega) (by omega) hf hx hr
      by_cases hz : RsK e (fun y => 1 ≤ st y ∧ st y < r) f x κ n
      · rw [ht.1 hz, bnd_some, if_neg (by decide)]
        obtain ⟨s2, e2, g1, g2⟩ := M_told hlen (k := κ) (n := n) (by omega) (by omega) hg ((hp κ n (by omega) (by omega)).mpr hz)
        rw [e2, bnd_some]
        exact ⟨_, _, ⟨rfl, g1, hF.trans g2⟩, rfl⟩
      · rw [ht.2 hz, bnd_some, if_pos rfl]
        refine ⟨_, _, ⟨rfl, ?_, hF⟩, rfl⟩
        rw [← Nat.add_assoc, sel_no (fun z => hz ((hp κ n (by omega) (by omega)).mp z))]
        exact hg
    · rintro rec281 z s1 ⟨rfl, hg, hF⟩
      have h1 := h.fr hF.cf
      rw [h1.1.2.2.2.2.1, n2n, if_pos ((nI_leI (by omega) (by omega)).mpr (Nat.le_refl _)), ← nI_succ]
      refine ⟨_, _, ⟨rfl, by omega, ?_, hF⟩, rfl⟩
      rw [sel_gap (p := p) (lo := 128 * κ + 2 * e 16 0) (128 * (κ + 1)) (by omega) (fun c c1 c2 z => ?_)]
      · exact hg
      · obtain ⟨n, rfl⟩ : ∃ n, c = 128 * κ + n := ⟨c - 128 * κ, by omega⟩
        have z1 := (hp κ n (by omega) (by omega)).mp z
        have hk : κ = 3 ∨ κ = 4 ∨ κ = 5 := by omega
        rcases hk with rfl | rfl | rfl
        · have := (RsK3.mp z1).1; omega
        · have := (RsK4.mp z1).1; omega
        · have := (RsK5.mp z1).1; omega
  · rintro rec271 z s1 ⟨rfl, -, hg, hF⟩
    have h1 := h.fr hF.cf
    have hM1 := hM.gf hF
    have fin : ∀ s2, GL (sel p (128 * 6 + (2 * f + (1 - x)) + 1)) s2 → Gf s s2 → GEnd e (fun y => 1 ≤ st y ∧ st y < r) f x s (some (0, s2)) := by
      intro s2 g1 g2
      refine ⟨s2, rfl, ?_, g2⟩
      rw [hpp, sel_gap (p := p) (lo := 128 * 6 + (2 * f + (1 - x)) + 1) 896 (by omega) (fun c c1 c2 z => ?_)]
      · exact g1
      · obtain ⟨n, rfl⟩ : ∃ n, c = 128 * 6 + n := ⟨c - 128 * 6, by omega⟩
        have := (RsK6.mp ((hp 6 n (by omega) (by omega)).mp z)).1
        omega
    have upto : sel p (128 * 6 + (2 * f + (1 - x))) = sel p (128 * 6) := sel_gap _ (by omega) (fun c c1 c2 z => by
      obtain ⟨n, rfl⟩ : ∃ n, c = 128 * 6 + n := ⟨c - 128 * 6, by omega⟩
      have := (RsK6.mp ((hp 6 n (by omega) (by omega)).mp z)).1
      omega)
    have none_ : ¬ RsK e (fun y => 1 ≤ st y ∧ st y < r) f x 6 (2 * f + (1 - x)) → GEnd e (fun y => 1 ≤ st y ∧ st y < r) f x s (some (0, s1)) := by
      intro hz
      refine fin s1 ?_ hF
      rw [sel_no (fun z => hz ((hp 6 _ (by omega) (by omega)).mp z)), upto]
      exact hg
    rw [if_pos (show (6 : Int32) ≤ nI 6 from (nI_leI (a := 6) (by omega) (by omega)).mpr (Nat.le_refl _)), if_pos (inb_nI (by omega) (by omega)), ix_nI (by omega), h1.2.2.1 _ h5]
    by_cases h3 : e 3 (e 5 f) = 0
    · have hs1 := hM.2.2.2 (100 + 2 * f + (1 - x))
      have hs2 := hM.2.2.2 (2 * e 5 f + x)
      rw [if_pos ((nI_l0 (by omega)).mpr h3), n1s hx, n2p, if_pos (inb_nI (by omega) (by omega)), ix_nI (by omega), hM1.on (by omega) (by omega)]
      have hc := came_is (a := st (100 + 2 * f + (1 - x))) (r := r) (by omega) (by omega) s1
      by_cases hcm : 1 ≤ st (100 + 2 * f + (1 - x)) ∧ st (100 + 2 * f + (1 - x)) < r
      · rw [hc.1 hcm, bnd_some, if_neg (by decide), n2p, if_pos (inb_nI (by omega) (by omega)), ix_nI (by omega), hM1.1 _ (by omega)]
        have hc2 := came_is (a := st (2 * e 5 f + x)) (r := r) (by omega) (by omega) s1
        by_cases hcm2 : 1 ≤ st (2 * e 5 f + x) ∧ st (2 * e 5 f + x) < r
        · rw [hc2.1 hcm2, bnd_some, if_neg (by decide)]
          obtain ⟨s2, e2, g1, g2⟩ := M_told hlen (k := 6) (n := 2 * f + (1 - x)) (by omega) (by omega) (by rw [upto]; exact hg) ((hp 6 _ (by omega) (by omega)).mpr (RsK6.mpr ⟨rfl, h3, hcm, hcm2⟩))
          have e2' : f_Mod_tell 6 (nI (2 * f + (1 - x))) s1 = some (0, s2) := e2
          rw [e2', bnd_some]
          exact fin s2 g1 (hF.trans g2)
        · rw [hc2.2 hcm2, bnd_some, if_pos rfl]
          exact none_ (fun z => hcm2 (RsK6.mp z).2.2.2)
      · rw [hc.2 hcm, bnd_some, if_pos rfl]
        exact none_ (fun z => hcm (RsK6.mp z).2.2.1)
    · rw [if_neg (fun z => h3 ((nI_l0 (by omega)).mp z))]
      exact none_ (fun z => h3 (RsK6.mp z).2.1)
theorem M_g170 (hG : DG e) (h : ER e s) (hM : MRep st s) (hL : ∀ u y, u < e 8 0 → y < 2 → st (20 + 2 * u + y) ≠ 0 → e 14 u = 1) {f x r : Nat} (hf : f < e 4 0) (hx : x < 2) (hr : r ≤ 1000) (hg : GL (sel (pb (RsP e (fun y => 1 ≤ st y ∧ st y < r) f x)) (128 * 2)) s1) (hF : Gf s s1) :
    GEnd e (fun y => 1 ≤ st y ∧ st y < r) f x s (f_Mod_gather_170 (nI f) (nI x) (nI r) (nI (e 5 f)) 0 s1) := by
  have hFn := hG.1.2.1
  have hPn := hG.1.1
  have hUn := hG.1.2.2.1
  have h5 := (hG.1.2.2.2.2.1 f hf).1
  have h7b := (hG.2.1.2.1 f hf).1
  have hlen := Rs_len e (fun y => 1 ≤ st y ∧ st y < r) f x
  unfold f_Mod_gather_170
  refine itr1_run (N := 2 * e 8 0) (I := fun n z s1 => z = nI n ∧ GL (sel (pb (RsP e (fun y => 1 ≤ st y ∧ st y < r) f x)) (128 * 2 + n)) s1 ∧ Gf s s1) (E := GEnd e (fun y => 1 ≤ st y ∧ st y < r) f x s) ?_ ?_ (2 * e 8 0) 4096 0 0 s1 (by omega) (by omega) ⟨nI_0.symm, hg, hF⟩
  · rintro rec n z s1 hn ⟨rfl, hg, hF⟩
    have h1 := h.fr hF.cf
    have hM1 := hM.gf hF
    have hu : n / 2 < e 8 0 := by omega
    have hm : n % 2 < 2 := Nat.mod_lt _ (by omega)
    have hsu := h1.2.2.2.2.1 (n / 2) hu
    have h10 := (hG.1.2.2.2.2.2.1 (n / 2) hu).2
    have h11 := (hG.2.1.2.2 (n / 2) hu).1
    have hfl := far_lt (d := e) (u := n / 2) hm
    have hstl := hM.2.2.2 (20 + 2 * (n / 2) + n % 2)
    refine Or.inl ?_
    rw [h1.1.2.2.1, n2n, if_neg (fun z => by have := (nI_leI (by omega) (by omega)).mp z; omega), if_pos (inb_nI (by omega) (by omega)), n_side (by omega), n_half (by omega), ix_nI (by omega), ix_nI (by omega), (h1.2.2.2.1 f hf).2, ← nI_succ]
    have skip : ¬ RsK e (fun y => 1 ≤ st y ∧ st y < r) f x 2 n → ∃ (y1 : Int32) (s' : Sg), (y1 = nI (n + 1) ∧ GL (sel (pb (RsP e (fun y => 1 ≤ st y ∧ st y < r) f x)) (128 * 2 + (n + 1))) s' ∧ Gf s s') ∧ rec (nI (n + 1)) s1 = rec y1 s' := by
      intro hz
      refine ⟨_, _, ⟨rfl, ?_, hF⟩, rfl⟩
      rw [← Nat.add_assoc, sel_no (fun z => hz ((RsP_at 2 (by omega)).mp (pb_iff.mp z)))]
      exact hg
    by_cases a7 : e 7 f = 1
    · rw [if_neg (fun z => by have := (nI_l0 (by omega)).mp z; omega), if_pos (inb_nI (by omega) (by omega)), hsu.2.1]
      by_cases a10 : e 5 f = e 10 (n / 2)
      · rw [if_pos (by rw [a10]), if_pos (inb_nI (by omega) (by omega)), hsu.2.2.1]
        by_cases a11 : e 11 (n / 2) = 1
        · rw [if_neg (fun z => by have := (nI_l0 (by omega)).mp z; omega)]
          have hfor := M_isFor hG h1 hu
          by_cases a14 : e 14 (n / 2) = 1
          · rw [hfor.1 a14, bnd_some, if_neg (by decide), M_far hG h1 hu, bnd_some]
            by_cases afar : far e (n / 2) (n % 2) = x
            · rw [if_pos (by rw [afar]), if_pos (inb_nI (by omega) (by omega)), ix_nI (by omega), show s1 53 n = nI (st (20 + 2 * (n / 2) + n % 2)) by rw [← hM1.live (by omega) hm, half2]]
              have hc := came_is (a := st (20 + 2 * (n / 2) + n % 2)) (r := r) (by omega) (by omega) s1
              by_cases hcm : 1 ≤ st (20 + 2 * (n / 2) + n % 2) ∧ st (20 + 2 * (n / 2) + n % 2) < r
              · rw [hc.1 hcm, bnd_some, if_neg (by decide)]
                obtain ⟨s2, e2, g1, g2⟩ := M_told hlen (k := 2) (n := n) (by omega) (by omega) hg (pb_iff.mpr ((RsP_at 2 (by omega)).mpr (RsK2.mpr ⟨hu, hcm, afar, a10, a11, a7⟩)))
                have e2' : f_Mod_tell 2 (nI n) s1 = some (0, s2) := e2
                rw [e2', bnd_some]
                exact ⟨_, _, ⟨rfl, g1, hF.trans g2⟩, rfl⟩
              · rw [hc.2 hcm, bnd_some, if_pos rfl]
                exact skip (fun z => hcm (RsK2.mp z).2.1)
            · rw [if_neg (fun z => afar (nI_inj (by omega) (by omega) z))]
              exact skip (fun z => afar (RsK2.mp z).2.2.1)
          · rw [hfor.2 a14, bnd_some, if_pos rfl]
            exact skip (fun z => a14 (hL (n / 2) (n % 2) hu hm (by have := (RsK2.mp z).2.1.1; omega)))
        · rw [if_pos ((nI_l0 (by omega)).mpr (by omega))]
          exact skip (fun z => a11 (RsK2.mp z).2.2.2.2.1)
      · rw [if_neg (fun z => a10 (nI_inj (by omega) (by omega) z).symm)]
        exact skip (fun z => a10 (RsK2.mp z).2.2.2.1)
    · rw [if_pos ((nI_l0 (by omega)).mpr (by omega))]
      exact skip (fun z => a7 (RsK2.mp z).2.2.2.2.2)
  · rintro rec z s1 ⟨rfl, hg, hF⟩
    have h1 := h.fr hF.cf
    rw [h1.1.2.2.1, n2n, if_pos ((nI_leI (by omega) (by omega)).mpr (Nat.le_refl _))]
    refine M_g271 hG h hM hf hx hr ?_ hF
    rw [sel_gap (lo := 128 * 2 + 2 * e 8 0) (128 * 3) (by omega) (fun c c1 c2 z => ?_)]
    · exact hg
    · obtain ⟨n, rfl⟩ : ∃ n, c = 128 * 2 + n := ⟨c - 128 * 2, by omega⟩
      have := (RsK2.mp ((RsP_at 2 (by omega)).mp (pb_iff.mp z))).1
      omega
theorem M_g72 (hG : DG e) (h : ER e s) (hM : MRep st s) (hL : ∀ u y, u < e 8 0 → y < 2 → st (20 + 2 * u + y) ≠ 0 → e 14 u = 1) {f x r : Nat} (hf : f < e 4 0) (hx : x < 2) (hr : r ≤ 1000) (hg : GL (sel (pb (RsP e (fun y => 1 ≤ st y ∧ st y < r) f x)) (128 * 1)) s1) (hF : Gf s s1) :
    GEnd e (fun y => 1 ≤ st y ∧ st y < r) f x s (f_Mod_gather_72 (nI f) (nI x) (nI r) (nI (e 5 f)) 0 s1) := by
  have hFn := hG.1.2.1
  have hPn := hG.1.1
  have hUn := hG.1.2.2.1
  have hlen := Rs_len e (fun y => 1 ≤ st y ∧ st y < r) f x
  unfold f_Mod_gather_72
  refine itr1_run (N := 2 * e 8 0) (I := fun n z s1 => z = nI n ∧ GL (sel (pb (RsP e (fun y => 1 ≤ st y ∧ st y < r) f x)) (128 * 1 + n)) s1 ∧ Gf s s1) (E := GEnd e (fun y => 1 ≤ st y ∧ st y < r) f x s) ?_ ?_ (2 * e 8 0) 4096 0 0 s1 (by omega) (by omega) ⟨nI_0.symm, hg, hF⟩
  · rintro rec n z s1 hn ⟨rfl, hg, hF⟩
    have h1 := h.fr hF.cf
    have hM1 := hM.gf hF
    have hu : n / 2 < e 8 0 := by omega
    have hm : n % 2 < 2 := Nat.mod_lt _ (by omega)
    have hfl := far_lt (d := e) (u := n / 2) hm
    have hstl := hM.2.2.2 (20 + 2 * (n / 2) + n % 2)
    have hask := h1.2.2.2.2.2.2.2 (n / 2) f hu hf
    have huq := h1.2.2.2.2.2.2.1.2.2
    have hA := h1.2.2.2.2.2.2.1.1
    refine Or.inl ?_
    rw [h1.1.2.2.1, n2n, if_neg (fun z => by have := (nI_leI (by omega) (by omega)).mp z; omega), n_side (by omega), n_half (by omega), h1.1.2.2.2.1]
    have skip : ¬ RsK e (fun y => 1 ≤ st y ∧ st y < r) f x 1 n → ∃ (y1 : Int32) (s' : Sg), (y1 = nI (n + 1) ∧ GL (sel (pb (RsP e (fun y => 1 ≤ st y ∧ st y < r) f x)) (128 * 1 + (n + 1))) s' ∧ Gf s s') ∧ rec (nI n + 1) s1 = rec y1 s' := by
      intro hz
      refine ⟨_, _, ⟨rfl, ?_, hF⟩, by rw [nI_succ]⟩
      rw [← Nat.add_assoc, sel_no (fun z => hz ((RsP_at 1 (by omega)).mp (pb_iff.mp z)))]
      exact hg
    rcases M_asking hG h1 (u := n / 2) (f := f) (by omega) (by omega) with ⟨k, hk, b1, b2, ek⟩ | ⟨hnk, ek⟩
    · rw [ek, bnd_some, if_neg (nI_m1 (by omega))]
      by_cases hout : nI k = s1 31 40
      · rw [if_pos hout]
        refine skip (fun z => ?_)
        have z1 := RsK1.mp z
        obtain ⟨k', c1, c2, c3, c4⟩ := hask.mpr ⟨z1.2.2.2.1, z1.2.2.2.2⟩
        have := huq k k' hk c1 (by omega) (by omega)
        subst this
        exact c4 hout
      · rw [if_neg hout]
        obtain ⟨a5, a15⟩ := hask.mp ⟨k, hk, b1, b2, hout⟩
        have hfor := M_isFor hG h1 hu
        by_cases a14 : e 14 (n / 2) = 1
        · rw [hfor.1 a14, bnd_some, if_neg (by decide), M_far hG h1 hu, bnd_some]
          by_cases afar : far e (n / 2) (n % 2) = x
          · rw [if_pos (by rw [afar]), if_pos (inb_nI (by omega) (by omega)), ix_nI (by omega), show s1 53 n = nI (st (20 + 2 * (n / 2) + n % 2)) by rw [← hM1.live (by omega) hm, half2]]
            have hc := came_is (a := st (20 + 2 * (n / 2) + n % 2)) (r := r) (by omega) (by omega) s1
            by_cases hcm : 1 ≤ st (20 + 2 * (n / 2) + n % 2) ∧ st (20 + 2 * (n / 2) + n % 2) < r
            · rw [hc.1 hcm, bnd_some, if_neg (by decide)]
              obtain ⟨s2, e2, g1, g2⟩ := M_told hlen (k := 1) (n := n) (by omega) (by omega) hg (pb_iff.mpr ((RsP_at 1 (by omega)).mpr (RsK1.mpr ⟨hu, hcm, afar, a5, a15⟩)))
              have e2' : f_Mod_tell 1 (nI n) s1 = some (0, s2) := e2
              rw [e2', bnd_some, ← nI_succ]
              exact ⟨_, _, ⟨rfl, g1, hF.trans g2⟩, rfl⟩
            · rw [hc.2 hcm, bnd_some, if_pos rfl]
              exact skip (fun z => hcm (RsK1.mp z).2.1)
          · rw [if_neg (fun z => afar (nI_inj (by omega) (by omega) z))]
            exact skip (fun z => afar (RsK1.mp z).2.2.1)
        · rw [hfor.2 a14, bnd_some, if_pos rfl]
          exact skip (fun z => a14 (hL (n / 2) (n % 2) hu hm (by have := (RsK1.mp z).2.1.1; omega)))
    · rw [ek, bnd_some, if_pos rfl]
      refine skip (fun z => ?_)
      have z1 := RsK1.mp z
      obtain ⟨k', c1, c2, c3, c4⟩ := hask.mpr ⟨z1.2.2.2.1, z1.2.2.2.2⟩
      exact hnk k' c1 ⟨c2, c3⟩
  · rintro rec z s1 ⟨rfl, hg, hF⟩
    have h1 := h.fr hF.cf
    rw [h1.1.2.2.1, n2n, if_pos ((nI_leI (by omega) (by omega)).mpr (Nat.le_refl _))]
    refine M_g170 hG h hM hL hf hx hr ?_ hF
    rw [sel_gap (lo := 128 * 1 + 2 * e 8 0) (128 * 2) (by omega) (fun c c1 c2 z => ?_)]
    · exact hg
    · obtain ⟨n, rfl⟩ : ∃ n, c = 128 * 1 + n := ⟨c - 128 * 1, by omega⟩
      have := (RsK1.mp ((RsP_at 1 (by omega)).mp (pb_iff.mp z))).1
      omega
theorem M_gather (hG : DG e) (h : ER e s) (hM : MRep st s) (hL : ∀ u y, u < e 8 0 → y < 2 → st (20 + 2 * u + y) ≠ 0 → e 14 u = 1) {f x r : Nat} (hf : f < e 4 0) (hx : x < 2) (hr : r ≤ 1000) :
    GEnd e (fun y => 1 ≤ st y ∧ st y < r) f x s (f_Mod_gather (nI f) (nI x) (nI r) s) := by
  have hFn := hG.1.2.1
  have hPn := hG.1.1
  have h5 := (hG.1.2.2.2.2.1 f hf).1
  have h7b := (hG.2.1.2.1 f hf).1
  have hlen := Rs_len e (fun y => 1 ≤ st y ∧ st y < r) f x
  have hF0 : Gf s (wr s 31 45 0) := ⟨fun c a _ _ => wr_c _ _ _ a, fun k hk => wr_k _ _ _ hk⟩
  have hg0 : GL (sel (pb (RsP e (fun y => 1 ≤ st y ∧ st y < r) f x)) 0) (wr s 31 45 0) := ⟨by rw [wr_s]; rfl, fun i c hi => by cases hi⟩
  have only : ∀ n, n < 128 → pb (RsP e (fun y => 1 ≤ st y ∧ st y < r) f x) n = true → RsK e (fun y => 1 ≤ st y ∧ st y < r) f x 0 n := by
    intro n hn z
    have := pb_iff.mp z
    rw [show n = 128 * 0 + n by omega] at this
    exact (RsP_at 0 hn).mp this
  have hlo : sel (pb (RsP e (fun y => 1 ≤ st y ∧ st y < r) f x)) (e 5 f) = sel (pb (RsP e (fun y => 1 ≤ st y ∧ st y < r) f x)) 0 := sel_gap _ (by omega) (fun c c1 c2 z => by
    have := (RsK0.mp (only c (by omega) z)).1
    omega)
  have hhi : sel (pb (RsP e (fun y => 1 ≤ st y ∧ st y < r) f x)) (128 * 1) = sel (pb (RsP e (fun y => 1 ≤ st y ∧ st y < r) f x)) (e 5 f + 1) := sel_gap _ (by omega) (fun c c1 c2 z => by
    have := (RsK0.mp (only c (by omega) z)).1
    omega)
  have none_ : ¬ RsK e (fun y => 1 ≤ st y ∧ st y < r) f x 0 (e 5 f) → GEnd e (fun y => 1 ≤ st y ∧ st y < r) f x s (f_Mod_gather_72 (nI f) (nI x) (nI r) (nI (e 5 f)) 0 (wr s 31 45 0)) := by
    intro hz
    refine M_g72 hG h hM hL hf hx hr ?_ hF0
    rw [hhi, sel_no (fun z => hz (only _ (by omega) z)), hlo]
    exact hg0
  unfold f_Mod_gather
  rw [if_pos (inb_nI (by omega) (by omega)), ix_nI (by omega), (h.2.2.2.1 f hf).1, (h.2.2.2.1 f hf).2, if_pos (inb_nI (by omega) (by omega)), ix_nI (by omega), (h.2.1 (e 5 f) (by omega)).1]
  by_cases a1 : e 1 (e 5 f) = 1
  · rw [if_pos a1, if_neg (by decide), if_pos (inb_nI (by omega) (by omega)), (h.2.1 (e 5 f) (by omega)).2.1 a1]
    by_cases a2 : e 2 (e 5 f) = 1
    · rw [if_pos a2, if_neg (by decide), if_pos (inb_nI (by omega) (by omega))]
      by_cases a7 : e 7 f = 1
      · rw [if_neg (fun z => by have := (nI_l0 (by omega)).mp z; omega)]
        by_cases ax : x = 0
        · have hstl := hM.2.2.2 (2 * e 5 f)
          rw [if_pos ((nI_l0 (by omega)).mpr ax), n2n, if_pos (inb_nI (by omega) (by omega)), ix_nI (by omega), hM.1 _ (by omega)]
          have hc := came_is (a := st (2 * e 5 f)) (r := r) (by omega) (by omega) (wr s 31 45 0)
          by_cases hcm : 1 ≤ st (2 * e 5 f) ∧ st (2 * e 5 f) < r
          · rw [hc.1 hcm, bnd_some, if_neg (by decide)]
            have hz : RsK e (fun y => 1 ≤ st y ∧ st y < r) f x 0 (e 5 f) := RsK0.mpr ⟨rfl, ax, ⟨a7, a2⟩, hcm⟩
            have hpz : pb (RsP e (fun y => 1 ≤ st y ∧ st y < r) f x) (128 * 0 + e 5 f) = true := pb_iff.mpr ((RsP_at 0 (by omega)).mpr hz)
            obtain ⟨s2, e2, g1, g2⟩ := M_told hlen (k := 0) (n := e 5 f) (by omega) (by omega) (by rw [Nat.mul_zero, Nat.zero_add, hlo]; exact hg0) hpz
            have e2' : f_Mod_tell 0 (nI (e 5 f)) (wr s 31 45 0) = some (0, s2) := e2
            rw [e2', bnd_some]
            refine M_g72 hG h hM hL hf hx hr ?_ (hF0.trans g2)
            rw [hhi]
            rw [Nat.mul_zero, Nat.zero_add] at g1
            exact g1
          · rw [hc.2 hcm, bnd_some, if_pos rfl]
            exact none_ (fun z => hcm (RsK0.mp z).2.2.2)
        · rw [if_neg (fun z => ax ((nI_l0 (by omega)).mp z))]
          exact none_ (fun z => ax (RsK0.mp z).2.1)
      · rw [if_pos ((nI_l0 (by omega)).mpr (by omega))]
        exact none_ (fun z => a7 (RsK0.mp z).2.2.1.1)
    · rw [if_neg a2, if_pos rfl]
      exact none_ (fun z => a2 (RsK0.mp z).2.2.1.2)
  · rw [if_neg a1, if_pos rfl]
    exact none_ (fun z => a1 ((h.2.1 (e 5 f) (by omega)).2.2 (RsK0.mp z).2.2.1.2))
end Rd2
