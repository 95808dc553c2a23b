theorem sel_add (p : Nat → Bool) (a : Nat) : ∀ b, (sel p (a + b)).length = (sel p a).length + (sel (fun k => p (a + k)) b).length
  | 0 => rfl
  | b + 1 => by
    have ih := sel_add p a b
    by_cases h : p (a + b) = true
    · rw [← Nat.add_assoc, sel_yes h, sel_yes (p := fun k => p (a + k)) h, List.length_append, List.length_append, ih]
      show _ + 1 = _ + (_ + 1)
      omega
    · rw [← Nat.add_assoc, sel_no h, sel_no (p := fun k => p (a + k)) h, ih]
theorem sel_one {p : Nat → Bool} {a : Nat} : ∀ n, (∀ k, k < n → p k = true → k = a) → (sel p n).length ≤ 1 ∧ (n ≤ a → (sel p n).length = 0)
  | 0, _ => ⟨Nat.zero_le _, fun _ => rfl⟩
  | n + 1, h => by
    have ih := sel_one n (fun k hk => h k (by omega))
    by_cases hp : p n = true
    · have e := h n (by omega) hp
      rw [sel_yes hp, List.length_append]
      have := ih.2 (by omega)
      refine ⟨?_, fun z => by omega⟩
      show _ + 1 ≤ 1
      omega
    · rw [sel_no hp]
      exact ⟨ih.1, fun z => ih.2 (by omega)⟩
theorem sel3 {p q r : Nat → Bool} : ∀ n, (∀ k, k < n → (p k = true → q k = true → False) ∧ (p k = true → r k = true → False) ∧ (q k = true → r k = true → False)) → (sel p n).length + (sel q n).length + (sel r n).length ≤ n
  | 0, _ => Nat.le_refl _
  | n + 1, h => by
    have ih := sel3 n (fun k hk => h k (by omega))
    obtain ⟨h1, h2, h3⟩ := h n (by omega)
    rw [sel_succ p, sel_succ q, sel_succ r, List.length_append, List.length_append, List.length_append]
    by_cases hp : p n = true
    · rw [if_pos hp, if_neg (fun z => h1 hp z), if_neg (fun z => h2 hp z)]
      simp
      omega
    · rw [if_neg hp]
      by_cases hq : q n = true
      · rw [if_pos hq, if_neg (fun z => h3 hq z)]
        simp
        omega
      · rw [if_neg hq]
        by_cases hr : r n = true
        · rw [if_pos hr]
          simp
          omega
        · rw [if_neg hr]
          simp
          omega
theorem RsP_at {d : Dt} {P : Nat → Prop} {f x : Nat} (k : Nat) {n : Nat} (hn : n < 128) : RsP d P f x (128 * k + n) ↔ RsK d P f x k n := by
  unfold RsP
  rw [show (128 * k + n) / 128 = k by omega, show (128 * k + n) % 128 = n by omega]
theorem RsK0 {d : Dt} {P : Nat → Prop} {f x n : Nat} : RsK d P f x 0 n ↔ (d 5 f = n ∧ x = 0 ∧ (d 7 f = 1 ∧ d 2 (d 5 f) = 1) ∧ P (2 * n)) := by unfold RsK; simp
theorem RsK1 {d : Dt} {P : Nat → Prop} {f x n : Nat} : RsK d P f x 1 n ↔ (n / 2 < d 8 0 ∧ P (20 + 2 * (n / 2) + n % 2) ∧ far d (n / 2) (n % 2) = x ∧ d 5 f = d 10 (n / 2) ∧ d 15 (32 * (n / 2) + d 6 f) = 1) := by unfold RsK; simp
theorem RsK2 {d : Dt} {P : Nat → Prop} {f x n : Nat} : RsK d P f x 2 n ↔ (n / 2 < d 8 0 ∧ P (20 + 2 * (n / 2) + n % 2) ∧ far d (n / 2) (n % 2) = x ∧ d 5 f = d 10 (n / 2) ∧ d 11 (n / 2) = 1 ∧ d 7 f = 1) := by unfold RsK; simp
theorem RsK3 {d : Dt} {P : Nat → Prop} {f x n : Nat} : RsK d P f x 3 n ↔ (n / 2 < d 16 0 ∧ d 18 (n / 2) = 0 ∧ d 20 (n / 2) = f ∧ P (100 + 2 * d 17 (n / 2) + n % 2) ∧ n % 2 = x) := by unfold RsK; simp
theorem RsK4 {d : Dt} {P : Nat → Prop} {f x n : Nat} : RsK d P f x 4 n ↔ (n / 2 < d 16 0 ∧ d 18 (n / 2) = 2 ∧ d 20 (n / 2) = f ∧ P (100 + 2 * d 17 (n / 2) + n % 2) ∧ d 14 (d 19 (n / 2)) = 1 ∧ far d (d 19 (n / 2)) (n % 2) = x) := by unfold RsK; simp
theorem RsK5 {d : Dt} {P : Nat → Prop} {f x n : Nat} : RsK d P f x 5 n ↔ (n / 2 < d 16 0 ∧ d 18 (n / 2) = 3 ∧ d 20 (n / 2) = f ∧ P (100 + 2 * d 17 (n / 2) + n % 2) ∧ d 14 (d 19 (n / 2)) = 1 ∧ far d (d 19 (n / 2)) (n % 2) = x ∧ P (20 + 2 * d 19 (n / 2) + n % 2)) := by unfold RsK; simp
theorem RsK6 {d : Dt} {P : Nat → Prop} {f x n : Nat} : RsK d P f x 6 n ↔ (n = 2 * f + (1 - x) ∧ d 3 (d 5 f) = 0 ∧ P (100 + 2 * f + (1 - x)) ∧ P (2 * d 5 f + x)) := by unfold RsK; simp
theorem Rs_len (d : Dt) (P : Nat → Prop) (f x : Nat) : (sel (pb (RsP d P f x)) 896).length ≤ 386 := by
  have a0 : (sel (pb (RsP d P f x)) (128 * 1)).length = (sel (pb (RsP d P f x)) 0).length + (sel (fun k => pb (RsP d P f x) (0 + k)) 128).length := sel_add (pb (RsP d P f x)) 0 128
  have a1 : (sel (pb (RsP d P f x)) (128 * 2)).length = (sel (pb (RsP d P f x)) (128 * 1)).length + (sel (fun k => pb (RsP d P f x) (128 * 1 + k)) 128).length := sel_add (pb (RsP d P f x)) (128 * 1) 128
  have a2 : (sel (pb (RsP d P f x)) (128 * 3)).length = (sel (pb (RsP d P f x)) (128 * 2)).length + (sel (fun k => pb (RsP d P f x) (128 * 2 + k)) 128).length := sel_add (pb (RsP d P f x)) (128 * 2) 128
  have a3 : (sel (pb (RsP d P f x)) (128 * 4)).length = (sel (pb (RsP d P f x)) (128 * 3)).length + (sel (fun k => pb (RsP d P f x) (128 * 3 + k)) 128).length := sel_add (pb (RsP d P f x)) (128 * 3) 128
  have a4 : (sel (pb (RsP d P f x)) (128 * 5)).length = (sel (pb (RsP d P f x)) (128 * 4)).length + (sel (fun k => pb (RsP d P f x) (128 * 4 + k)) 128).length := sel_add (pb (RsP d P f x)) (128 * 4) 128
  have a5 : (sel (pb (RsP d P f x)) (128 * 6)).length = (sel (pb (RsP d P f x)) (128 * 5)).length + (sel (fun k => pb (RsP d P f x) (128 * 5 + k)) 128).length := sel_add (pb (RsP d P f x)) (128 * 5) 128
  have a6 : (sel (pb (RsP d P f x)) (896)).length = (sel (pb (RsP d P f x)) (128 * 6)).length + (sel (fun k => pb (RsP d P f x) (128 * 6 + k)) 128).length := sel_add (pb (RsP d P f x)) (128 * 6) 128
  have b0 : (sel (fun k => pb (RsP d P f x) (0 + k)) 128).length ≤ 1 := (sel_one (a := d 5 f) 128 (fun k hk z => by
    have z1 := pb_iff.mp z
    rw [show 0 + k = 128 * 0 + k by omega, RsP_at 0 hk, RsK0] at z1
    exact z1.1.symm)).1
  have b1 := sel_len (fun k => pb (RsP d P f x) (128 * 1 + k)) 128
  have b2 := sel_len (fun k => pb (RsP d P f x) (128 * 2 + k)) 128
  have b6 : (sel (fun k => pb (RsP d P f x) (128 * 6 + k)) 128).length ≤ 1 := (sel_one (a := 2 * f + (1 - x)) 128 (fun k hk z => by
    have z1 := pb_iff.mp z
    rw [RsP_at 6 hk, RsK6] at z1
    exact z1.1)).1
  have b3 : (sel (fun k => pb (RsP d P f x) (128 * 3 + k)) 128).length + (sel (fun k => pb (RsP d P f x) (128 * 4 + k)) 128).length + (sel (fun k => pb (RsP d P f x) (128 * 5 + k)) 128).length ≤ 128 := by
    refine sel3 128 (fun k hk => ⟨fun z1 z2 => ?_, fun z1 z2 => ?_, fun z1 z2 => ?_⟩)
    · have y1 := RsK3.mp ((RsP_at 3 hk).mp (pb_iff.mp z1))
      have y2 := RsK4.mp ((RsP_at 4 hk).mp (pb_iff.mp z2))
      omega
    · have y1 := RsK3.mp ((RsP_at 3 hk).mp (pb_iff.mp z1))
      have y2 := RsK5.mp ((RsP_at 5 hk).mp (pb_iff.mp z2))
      omega
    · have y1 := RsK4.mp ((RsP_at 4 hk).mp (pb_iff.mp z1))
      have y2 := RsK5.mp ((RsP_at 5 hk).mp (pb_iff.mp z2))
      omega
  have c0 : (sel (pb (RsP d P f x)) 0).length = 0 := rfl
  omega
/-- what is told so far -/
def GL (L : List Nat) (s : Sg) : Prop := s 31 45 = nI L.length ∧ ∀ i c, L[i]? = some c → s 59 i = nI (c / 128) ∧ s 60 i = nI (c % 128)
def Gf (s s' : Sg) : Prop := (∀ c, c ≠ 31 → c ≠ 59 → c ≠ 60 → s' c = s c) ∧ ∀ k, k ≠ 45 → s' 31 k = s 31 k
theorem Gf.refl (s : Sg) : Gf s s := ⟨fun _ _ _ _ => rfl, fun _ _ => rfl⟩
theorem Gf.trans {s s1 s2 : Sg} (h1 : Gf s s1) (h2 : Gf s1 s2) : Gf s s2 := ⟨fun c a b e => (h2.1 c a b e).trans (h1.1 c a b e), fun k hk => (h2.2 k hk).trans (h1.2 k hk)⟩
theorem Gf.cf {s s' : Sg} (h : Gf s s') : Cf s s' := ⟨fun c a _ _ _ b e => h.1 c a b e, h.2⟩
section Rc
variable {e : Dt} {s s1 : Sg} {st : Nat → Nat}
theorem MRep.gf {s' : Sg} (h : MRep st s) (hg : Gf s s') : MRep st s' := by
  unfold MRep
  rw [hg.1 52 (by omega) (by omega) (by omega), hg.1 53 (by omega) (by omega) (by omega), hg.1 54 (by omega) (by omega) (by omega)]
  exact h
theorem M_tell {L : List Nat} (h : GL L s1) (hl : L.length < 400) {k n : Nat} (hn : n < 128) : ∃ s2, f_Mod_tell (nI k) (nI n) s1 = some (0, s2) ∧ GL (L ++ [128 * k + n]) s2 ∧ Gf s1 s2 := by
  unfold f_Mod_tell
  rw [h.1, if_pos (inb_nI hl (by omega)), if_pos (inb_nI hl (by omega)), ix_nI (by omega), ← nI_succ]
  refine ⟨_, rfl, ⟨?_, fun i c hi => ?_⟩, fun c a b e => ?_, fun j hj => ?_⟩
  · rw [wr_s, List.length_append]; rfl
  · rw [wr_c _ _ _ (show 59 ≠ 31 by omega), wr_c _ _ _ (show 60 ≠ 31 by omega), wr_c _ _ _ (show 59 ≠ 60 by omega), wr_at, wr_at]
    by_cases ei : i = L.length
    · rw [ei, List.getElem?_append_right (Nat.le_refl _), Nat.sub_self] at hi
      cases hi
      rw [if_pos ⟨rfl, ei⟩, if_pos ⟨rfl, ei⟩, show (128 * k + n) / 128 = k by omega, show (128 * k + n) % 128 = n by omega]
      exact ⟨rfl, rfl⟩
    · have hlt : i < L.length := by
        have h9 := (List.getElem?_eq_some_iff.mp hi).1
        rw [List.length_append] at h9
        have h9 : i < L.length + 1 := h9
        omega
      rw [List.getElem?_append_left hlt] at hi
      rw [if_neg (fun z => ei z.2), if_neg (fun z => ei z.2), wr_c _ _ _ (show 60 ≠ 59 by omega)]
      exact h.2 i c hi
  · rw [wr_c _ _ _ a, wr_c _ _ _ e, wr_c _ _ _ b]
  · rw [wr_k _ _ _ hj, wr_c _ _ _ (by omega), wr_c _ _ _ (by omega)]
/-- telling, or not, at a code -/
theorem M_told {p : Nat → Bool} (hlen : (sel p 896).length ≤ 386) {k n : Nat} (hk : k < 7) (hn : n < 128) (h : GL (sel p (128 * k + n)) s1) (hp : p (128 * k + n) = true) : ∃ s2, f_Mod_tell (nI k) (nI n) s1 = some (0, s2) ∧ GL (sel p (128 * k + (n + 1))) s2 ∧ Gf s1 s2 := by
  have h1 := sel_mono p (k := 128 * k + n + 1) 896 (by omega)
  rw [sel_yes hp, List.length_append] at h1
  have h1 : (sel p (128 * k + n)).length + 1 ≤ _ := h1
  obtain ⟨s2, e2, g1, g2⟩ := M_tell h (by omega) (k := k) hn
  refine ⟨s2, e2, ?_, g2⟩
  rw [← Nat.add_assoc, sel_yes hp]
  exact g1
theorem M_turnsOn (hG : DG e) (h : ER e s) (hM : MRep st s) {κ n f x r : Nat} (hκ : κ = 3 ∨ κ = 4 ∨ κ = 5) (hn : n / 2 < e 16 0) (hn2 : n < 120) (hf : f < e 4 0) (hx : x < 2) (hr : r ≤ 1000) :
    HB (RsK e (fun y => 1 ≤ st y ∧ st y < r) f x κ n) s (f_Mod_turnsOn (nI (n / 2)) (nI (n % 2)) (nI κ) (nI f) (nI x) (nI r) s) := by
  have hFn := hG.1.2.1
  have hUn := hG.1.2.2.1
  have ht := hG.1.2.2.2.2.2.2 (n / 2) hn
  have hd := h.2.2.2.2.2.1 (n / 2) hn
  have hm : n % 2 < 2 := Nat.mod_lt _ (by omega)
  have hall : ∀ (hh : ¬ (e 18 (n / 2) ≠ 1 ∧ e 20 (n / 2) = f)), ¬ RsK e (fun y => 1 ≤ st y ∧ st y < r) f x κ n := by
    intro hh z
    rcases hκ with rfl | rfl | rfl
    · have z := RsK3.mp z; exact hh ⟨by omega, z.2.2.1⟩
    · have z := RsK4.mp z; exact hh ⟨by omega, z.2.2.1⟩
    · have z := RsK5.mp z; exact hh ⟨by omega, z.2.2.1⟩
  unfold f_Mod_turnsOn
  rw [if_pos (inb_nI (by omega) (by omega)), if_pos (inb_nI (by omega) (by omega)), ix_nI (by omega)]
  by_cases h2 : e 18 (n / 2) ≠ 1 ∧ e 20 (n / 2) = f
  · have hstl := hM.2.2.2 (100 + 2 * e 17 (n / 2) + n % 2)
    rw [if_pos (by rw [hd.2.2.2.2.1 h2.1, h2.2]), if_pos (inb_nI (by omega) (by omega)), hd.1, n2p, if_pos (inb_nI (by omega) (by omega)), ix_nI (by omega), hM.on (by omega) hm]
    have hc := came_is (a := st (100 + 2 * e 17 (n / 2) + n % 2)) (r := r) (by omega) (by omega) s
    by_cases hcm : 1 ≤ st (100 + 2 * e 17 (n / 2) + n % 2) ∧ st (100 + 2 * e 17 (n / 2) + n % 2) < r
    · rw [hc.1 hcm, bnd_some, if_neg (by decide)]
      by_cases k3 : κ = 3
      · subst k3
        rw [if_pos (show nI 3 = (3 : Int32) from rfl), if_pos (inb_nI (by omega) (by omega)), hd.2.1]
        by_cases h4 : e 18 (n / 2) = 0
        · rw [if_pos ((nI_l0 (by omega)).mpr h4)]
          by_cases h5 : n % 2 = x
          · rw [if_pos (by rw [h5])]
            exact HB.yes (RsK3.mpr ⟨hn, h4, h2.2, hcm, h5⟩) rfl
          · rw [if_neg (fun z => h5 (nI_inj (by omega) (by omega) z))]
            exact HB.no (fun z => h5 (RsK3.mp z).2.2.2.2) rfl
        · rw [if_neg (fun z => h4 ((nI_l0 (by omega)).mp z))]
          exact HB.no (fun z => h4 (RsK3.mp z).2.1) rfl
      · rw [if_neg (show ¬ nI κ = 3 from fun z => k3 ((nI_l3 (by omega)).mp z)), if_pos (inb_nI (by omega) (by omega)), hd.2.1]
        have rest : ∀ w : Nat, w < 4 → w ≠ 0 → (RsK e (fun y => 1 ≤ st y ∧ st y < r) f x κ n ↔ (e 18 (n / 2) = w ∧ e 14 (e 19 (n / 2)) = 1 ∧ far e (e 19 (n / 2)) (n % 2) = x ∧ (κ = 4 ∨ (1 ≤ st (20 + 2 * e 19 (n / 2) + n % 2) ∧ st (20 + 2 * e 19 (n / 2) + n % 2) < r)))) → HB (RsK e (fun y => 1 ≤ st y ∧ st y < r) f x κ n) s (f_Mod_turnsOn_86 (nI (n % 2)) (nI κ) (nI x) (nI r) (s 49 (n / 2)) (nI w) (nI (e 18 (n / 2))) s) := by
          intro w hw hw0 hiff
          unfold f_Mod_turnsOn_86
          by_cases h6 : e 18 (n / 2) = w
          · have hus := ht.2.2.1 (by omega)
            rw [if_pos (by rw [h6]), hd.2.2.1 (by omega)]
            have hfor := M_isFor hG h hus
            by_cases h14 : e 14 (e 19 (n / 2)) = 1
            · have hfl := far_lt (d := e) (u := e 19 (n / 2)) hm
              rw [hfor.1 h14, bnd_some, if_neg (by decide), M_far hG h hus, bnd_some]
              by_cases h7 : far e (e 19 (n / 2)) (n % 2) = x
              · rw [if_pos (by rw [h7])]
                by_cases k4 : κ = 4
                · rw [if_pos (show nI κ = 4 from (nI_lk 4 (by omega) (by omega)).mpr k4)]
                  exact HB.yes (hiff.mpr ⟨h6, h14, h7, Or.inl k4⟩) rfl
                · have hstl2 := hM.2.2.2 (20 + 2 * e 19 (n / 2) + n % 2)
                  rw [if_neg (show ¬ nI κ = 4 from fun z => k4 ((nI_lk 4 (by omega) (by omega)).mp z)), n2p, if_pos (inb_nI (by omega) (by omega)), ix_nI (by omega), hM.live (by omega) hm]
                  have hc2 := came_is (a := st (20 + 2 * e 19 (n / 2) + n % 2)) (r := r) (by omega) (by omega) s
                  by_cases hcm2 : 1 ≤ st (20 + 2 * e 19 (n / 2) + n % 2) ∧ st (20 + 2 * e 19 (n / 2) + n % 2) < r
                  · rw [hc2.1 hcm2, bnd_some]
                    exact HB.yes (hiff.mpr ⟨h6, h14, h7, Or.inr hcm2⟩) rfl
                  · rw [hc2.2 hcm2, bnd_some]
                    refine HB.no (fun z => ?_) rfl
                    rcases (hiff.mp z).2.2.2 with z | z
                    · exact k4 z
                    · exact hcm2 z
              · rw [if_neg (fun z => h7 (nI_inj (by omega) (by omega) z))]
                exact HB.no (fun z => h7 (hiff.mp z).2.2.1) rfl
            · rw [hfor.2 h14, bnd_some, if_pos rfl]
              exact HB.no (fun z => h14 (hiff.mp z).2.1) rfl
          · rw [if_neg (fun z => h6 (nI_inj (by omega) (by omega) z))]
            exact HB.no (fun z => h6 (hiff.mp z).1) rfl
        by_cases k4 : κ = 4
        · subst k4
          rw [if_pos (show nI 4 = (4 : Int32) from rfl)]
          refine rest 2 (by omega) (by omega) ?_
          rw [RsK4]
          constructor
          · rintro ⟨a1, a2, a3, a4, a5, a6⟩
            exact ⟨a2, a5, a6, Or.inl rfl⟩
          · rintro ⟨a1, a2, a3, a4⟩
            exact ⟨hn, a1, h2.2, hcm, a2, a3⟩
        · have k5 : κ = 5 := by omega
          subst k5
          rw [if_neg (show ¬ nI 5 = (4 : Int32) by decide)]
          refine rest 3 (by omega) (by omega) ?_
          rw [RsK5]
          constructor
          · rintro ⟨a1, a2, a3, a4, a5, a6, a7⟩
            exact ⟨a2, a5, a6, Or.inr a7⟩
          · rintro ⟨a1, a2, a3, a4⟩
            exact ⟨hn, a1, h2.2, hcm, a2, a3, a4.resolve_left (by omega)⟩
    · rw [hc.2 hcm, bnd_some, if_pos rfl]
      refine HB.no (fun z => hcm ?_) rfl
      rcases hκ with rfl | rfl | rfl
      · exact (RsK3.mp z).2.2.2.1
      · exact (RsK4.mp z).2.2.2.1
      · exact (RsK5.mp z).2.2.2.1
  · have hne : ¬ s 50 (n / 2) = nI f := by
      by_cases h3 : e 18 (n / 2) = 1
      · rw [hd.2.2.2.2.2 h3]
        exact fun z => nI_m1 (n := f) (by omega) z.symm
      · rw [hd.2.2.2.2.1 h3]
        have := ht.2.2.2 h3
        exact fun z => h2 ⟨h3, nI_inj (by omega) (by omega) z⟩
    rw [if_neg hne]
    exact HB.no (hall h2) rfl
end Rc
