theorem RsK_mono {d : Dt} {P Q : Nat → Prop} {f x k n : Nat} (hPQ : ∀ y, P y → Q y) (h : RsK d P f x k n) : RsK d Q f x k n := by
  rcases h with ⟨a, b, c, e, g⟩ | ⟨a, b, c, e⟩ | ⟨a, b, c, e⟩ | ⟨a, b, c, e, g, i⟩ | ⟨a, b, c, e, g, i⟩ | ⟨a, b, c, e, g, i, j, k⟩ | ⟨a, b, c, e, g⟩
  · exact Or.inl ⟨a, b, c, e, hPQ _ g⟩
  · exact Or.inr (Or.inl ⟨a, b, hPQ _ c, e⟩)
  · exact Or.inr (Or.inr (Or.inl ⟨a, b, hPQ _ c, e⟩))
  · exact Or.inr (Or.inr (Or.inr (Or.inl ⟨a, b, c, e, hPQ _ g, i⟩)))
  · exact Or.inr (Or.inr (Or.inr (Or.inr (Or.inl ⟨a, b, c, e, hPQ _ g, i⟩))))
  · exact Or.inr (Or.inr (Or.inr (Or.inr (Or.inr (Or.inl ⟨a, b, c, e, hPQ _ g, i, j, hPQ _ k⟩)))))
  · exact Or.inr (Or.inr (Or.inr (Or.inr (Or.inr (Or.inr ⟨a, b, c, hPQ _ e, hPQ _ g⟩)))))
/-- reasons are the rules for features -/
theorem Rs_Dv {d : Dt} {P : Nat → Prop} {f x k n : Nat} (hf : f < d 4 0) (hx : x < 2) (h : RsK d P f x k n) : Dv d P (100 + 2 * f + x) := by
  have hm : n % 2 < 2 := Nat.mod_lt _ (by omega)
  rcases h with ⟨-, rfl, rfl, e, g⟩ | ⟨a, b, c, e, g, i⟩ | ⟨a, b, c, e, g, i⟩ | ⟨a, b, c, e, g, i⟩ | ⟨a, b, c, e, g, i, j⟩ | ⟨a, b, c, e, g, i, j, k⟩ | ⟨a, b, c, e, g⟩
  · exact Or.inr (Or.inr (Or.inr (Or.inl ⟨f, hf, e.1, e.2, g, rfl⟩)))
  · exact Or.inr (Or.inr (Or.inr (Or.inr (Or.inl ⟨n / 2, n % 2, f, b, hm, hf, g, Or.inl i, c, by rw [e]⟩))))
  · exact Or.inr (Or.inr (Or.inr (Or.inr (Or.inl ⟨n / 2, n % 2, f, b, hm, hf, g, Or.inr i, c, by rw [e]⟩))))
  · exact Or.inr (Or.inr (Or.inr (Or.inr (Or.inr (Or.inl ⟨n / 2, n % 2, b, hm, c, g, by rw [e, i]⟩)))))
  · exact Or.inr (Or.inr (Or.inr (Or.inr (Or.inr (Or.inr (Or.inl ⟨n / 2, n % 2, b, hm, c, i, g, by rw [e, j]⟩))))))
  · exact Or.inr (Or.inr (Or.inr (Or.inr (Or.inr (Or.inr (Or.inr (Or.inl ⟨n / 2, n % 2, b, hm, c, i, g, k, by rw [e, j]⟩)))))))
  · exact Or.inr (Or.inr (Or.inr (Or.inr (Or.inr (Or.inr (Or.inr (Or.inr (Or.inl ⟨f, x, hf, hx, c, e, g, rfl⟩))))))))
theorem Dv_Rs {d : Dt} (hd : DOk d) {P : Nat → Prop} {f x : Nat} (hf : f < d 4 0) (hx : x < 2) (h : Dv d P (100 + 2 * f + x)) : ∃ k n, k < 7 ∧ n < 128 ∧ RsK d P f x k n := by
  obtain ⟨k1, k2, k3, k4, k5, k6, k7⟩ := id hd
  rcases h with ⟨p, h1, h2, h3⟩ | ⟨u, s, h1, h2, h3, h4, h5, h6⟩ | ⟨u, s, h1, h2, h3, h4⟩ | ⟨t, h1, h2, h3, h4, h5⟩ | ⟨u, s, t, h1, h2, h3, h4, h5, h6, h7⟩ | ⟨r, s, h1, h2, h3, h4, h5⟩ | ⟨r, s, h1, h2, h3, h4, h5, h6⟩ | ⟨r, s, h1, h2, h3, h4, h5, h6, h7⟩ | ⟨t, s, h1, h2, h3, h4, h5, h6⟩ | ⟨r, s, h1, h2, h3, h4, h5, h6⟩
  · omega
  · omega
  · have := (k6 u h1).2
    have := far_lt (d := d) (u := u) h2
    omega
  · obtain rfl : t = f := by omega
    have hx0 : x = 0 := by omega
    have := (k5 t h1).1
    exact ⟨0, d 5 t, by omega, by omega, Or.inl ⟨rfl, rfl, hx0, ⟨h2, h3⟩, h4⟩⟩
  · have hfl := far_lt (d := d) (u := u) h2
    obtain rfl : t = f := by omega
    have hfx : far d u s = x := by omega
    have e1 : (2 * u + s) / 2 = u := by omega
    have e2 : (2 * u + s) % 2 = s := by omega
    rcases h5 with h5 | h5
    · refine ⟨1, 2 * u + s, by omega, by omega, Or.inr (Or.inl ⟨rfl, ?_⟩)⟩
      rw [e1, e2]
      exact ⟨h1, h6, hfx, h4, h5⟩
    · refine ⟨2, 2 * u + s, by omega, by omega, Or.inr (Or.inr (Or.inl ⟨rfl, ?_⟩))⟩
      rw [e1, e2]
      exact ⟨h1, h6, hfx, h4, h5⟩
  · have hg := (k7 r h1).2.2.2 (by omega)
    have e1 : (2 * r + s) / 2 = r := by omega
    have e2 : (2 * r + s) % 2 = s := by omega
    refine ⟨3, 2 * r + s, by omega, by omega, Or.inr (Or.inr (Or.inr (Or.inl ⟨rfl, ?_⟩)))⟩
    rw [e1, e2]
    exact ⟨h1, h3, by omega, h4, by omega⟩
  · have hfl := far_lt (d := d) (u := d 19 r) h2
    have e1 : (2 * r + s) / 2 = r := by omega
    have e2 : (2 * r + s) % 2 = s := by omega
    refine ⟨4, 2 * r + s, by omega, by omega, Or.inr (Or.inr (Or.inr (Or.inr (Or.inl ⟨rfl, ?_⟩))))⟩
    rw [e1, e2]
    exact ⟨h1, h3, by omega, h5, h4, by omega⟩
  · have hfl := far_lt (d := d) (u := d 19 r) h2
    have e1 : (2 * r + s) / 2 = r := by omega
    have e2 : (2 * r + s) % 2 = s := by omega
    refine ⟨5, 2 * r + s, by omega, by omega, Or.inr (Or.inr (Or.inr (Or.inr (Or.inr (Or.inl ⟨rfl, ?_⟩)))))⟩
    rw [e1, e2]
    exact ⟨h1, h3, by omega, h5, h4, by omega, h6⟩
  · obtain rfl : t = f := by omega
    obtain rfl : s = x := by omega
    exact ⟨6, 2 * t + (1 - s), by omega, by omega, Or.inr (Or.inr (Or.inr (Or.inr (Or.inr (Or.inr ⟨rfl, rfl, h3, h4, h5⟩)))))⟩
  · have := (k7 r h1).2.2.1 (by omega)
    omega
/-- the codes of a feature's reasons -/
noncomputable def Rl (d : Dt) (f x : Nat) : List Nat := sel (pb (RsP d (fun y => stg d y ≠ 0) f x)) 896
def SpReas (d : Dt) (l1 l2 v : Int32) : Prop :=
  (∃ f x, l1 = nI f ∧ f < d 4 0 ∧ l2 = nI x ∧ x < 2 ∧ v = nI (Rl d f x).length) ∨ ((∀ f x, l1 = nI f → f < d 4 0 → l2 = nI x → x < 2 → False) ∧ v = 0)
def SpReason (d : Dt) (l1 l2 l3 l4 v : Int32) : Prop :=
  (∃ f x j k, l1 = nI f ∧ f < d 4 0 ∧ l2 = nI x ∧ x < 2 ∧ l3 = nI j ∧ j < 2147483648 ∧ (Rl d f x)[j]? = some k ∧ ((l4 = 0 ∧ v = nI (k / 128)) ∨ (l4 = 1 ∧ v = nI (k % 128)) ∨ (l4 ≠ 0 ∧ l4 ≠ 1 ∧ v = -1))) ∨
  ((∀ f x j k, l1 = nI f → f < d 4 0 → l2 = nI x → x < 2 → l3 = nI j → j < 2147483648 → (Rl d f x)[j]? = some k → False) ∧ v = -1)
section Rq
variable {t d : Dt} {cur : Bool} {lv : List Nat} {s : Sg}
theorem Rl_nil (hI : SI t d cur) {f x : Nat} (hf : f < d 4 0) (hx : x < 2) (h : stg d (100 + 2 * f + x) = 0) : Rl d f x = [] := by
  refine List.eq_nil_iff_forall_not_mem.mpr (fun k hk => ?_)
  have h1 := pb_iff.mp (sel_mem.mp hk).2
  have h2 : Dv d (fun y => 1 ≤ stg d y ∧ stg d y ≤ 221) (100 + 2 * f + x) := Rs_Dv hf hx (RsK_mono (fun y hy => ⟨by omega, hI.2.2.2.2.2.1 y⟩) h1)
  have := (hI.2.2.2.2.1.2 _ _ h2).1
  omega
theorem C_on0 (hI : SI t d cur) (h : CR t d cur lv s) (l1 l2 : Int32) : (∃ f x, l1 = nI f ∧ f < d 4 0 ∧ l2 = nI x ∧ x < 2 ∧ stg d (100 + 2 * f + x) ≠ 0 ∧ f_FU_on l1 l2 s = some (nI (stg d (100 + 2 * f + x)), s)) ∨ (f_FU_on l1 l2 s = some (0, s) ∧ ∀ f x, l1 = nI f → f < d 4 0 → l2 = nI x → x < 2 → Rl d f x = []) := by
  have hFn := hI.2.1.1.2.1
  obtain ⟨v, e, hs | hs⟩ := C_on hI h l1 l2
  · obtain ⟨f, x, rfl, hf, rfl, hx, rfl⟩ := hs
    by_cases h0 : stg d (100 + 2 * f + x) = 0
    · refine Or.inr ⟨by rw [e, h0]; rfl, fun f' x' e1 hf' e2 hx' => ?_⟩
      have c1 := nI_inj (by omega) (by omega) e1
      have c2 := nI_inj (by omega) (by omega) e2
      subst c1; subst c2
      exact Rl_nil hI hf' hx h0
    · refine Or.inl ⟨f, x, rfl, ?_, rfl, hx, h0, e⟩
      rcases FX_valid hI.2.1.1 hI.2.2.2.2.1 h0 with z | z | z
      · omega
      · omega
      · have := z.2.2
        omega
  · refine Or.inr ⟨by rw [e, hs.2], fun f x e1 hf e2 hx => (hs.1 f x e1 (by omega) e2 hx).elim⟩
theorem C_reasons (hI : SI t d cur) (h : CR t d cur lv s) (l1 l2 : Int32) : ∃ v, f_FU_reasons l1 l2 s = some (v, s) ∧ SpReas d l1 l2 v := by
  obtain ⟨q, hq, hR⟩ := h.crep hI
  have hD := DC_of hI.2.1 hI.2.2.1 h.1 h.2.1
  unfold f_FU_reasons
  rcases C_on0 hI h l1 l2 with ⟨f, x, rfl, hf, rfl, hx, h0, e⟩ | ⟨e, hn⟩
  · have hb := hI.2.2.2.2.2.1 (100 + 2 * f + x)
    rw [e, bnd_some, if_neg (fun z => h0 ((nI_l0 (by omega)).mp z)), F_countOf hI.2.1 hD hR hf hx, bnd_some, hq]
    exact ⟨_, rfl, Or.inl ⟨f, x, rfl, hf, rfl, hx, rfl⟩⟩
  · rw [e, bnd_some, if_pos rfl]
    refine ⟨_, rfl, ?_⟩
    rcases Classical.em (∃ f x, l1 = nI f ∧ f < d 4 0 ∧ l2 = nI x ∧ x < 2) with ⟨f, x, e1, hf, e2, hx⟩ | hz
    · refine Or.inl ⟨f, x, e1, hf, e2, hx, ?_⟩
      rw [hn f x e1 hf e2 hx]
      rfl
    · exact Or.inr ⟨fun f x a b c g => hz ⟨f, x, a, b, c, g⟩, rfl⟩
theorem C_reason (hI : SI t d cur) (h : CR t d cur lv s) (l1 l2 l3 l4 : Int32) : ∃ v, f_FU_reason l1 l2 l3 l4 s = some (v, s) ∧ SpReason d l1 l2 l3 l4 v := by
  obtain ⟨q, hq, hR⟩ := h.crep hI
  have hD := DC_of hI.2.1 hI.2.2.1 h.1 h.2.1
  have hFn := hI.2.1.1.2.1
  unfold f_FU_reason
  have none_ : l4 ≠ 0 → l4 ≠ 1 → ∃ v, (some (-1, s) : Ro) = some (v, s) ∧ SpReason d l1 l2 l3 l4 v := by
    intro h40 h41
    refine ⟨_, rfl, ?_⟩
    rcases Classical.em (∃ f x j k, l1 = nI f ∧ f < d 4 0 ∧ l2 = nI x ∧ x < 2 ∧ l3 = nI j ∧ j < 2147483648 ∧ (Rl d f x)[j]? = some k) with ⟨f, x, j, k, a1, a2, a3, a4, a5, a6, a7⟩ | hz
    · exact Or.inl ⟨f, x, j, k, a1, a2, a3, a4, a5, a6, a7, Or.inr (Or.inr ⟨h40, h41, rfl⟩)⟩
    · exact Or.inr ⟨fun f x j k a1 a2 a3 a4 a5 a6 a7 => hz ⟨f, x, j, k, a1, a2, a3, a4, a5, a6, a7⟩, rfl⟩
  rcases hasc l4 2 with ⟨w, hw, rfl⟩ | hno
  · have e2 : f_FU_within (nI w) 2 s = some (1, s) := within_yes (n := 2) hw (by omega) s
    rw [e2, bnd_some, if_neg (by decide)]
    rcases C_on0 hI h l1 l2 with ⟨f, x, rfl, hf, rfl, hx, h0, e⟩ | ⟨e, hn⟩
    · have hb := hI.2.2.2.2.2.1 (100 + 2 * f + x)
      rw [e, bnd_some, if_neg (fun z => h0 ((nI_l0 (by omega)).mp z))]
      have fin : ∀ j, j < 2147483648 → l3 = nI j → ∃ v, (bnd (f_Reas_find (nI f) (nI x) l3 s) fun v3 s3 => if v3 = -1 then some (-1, s3) else if nI w = 0 then some (v3 / 128, s3) else some (v3 - v3 / 128 * 128, s3)) = some (v, s) ∧ SpReason d (nI f) (nI x) l3 (nI w) v := by
        intro j hj e3
        subst e3
        rw [F_find hI.2.1 hD hR hf hx j hj, bnd_some, hq]
        rw [show sel (pb (RsP d (fun y => stg d y ≠ 0) f x)) 896 = Rl d f x from rfl]
        rcases hk : (Rl d f x)[j]? with _ | k
        · have eo : oth (Rl d f x) j = -1 := by unfold oth; rw [hk]
          rw [eo, if_pos rfl]
          refine ⟨_, rfl, Or.inr ⟨fun f' x' j' k' a1 a2 a3 a4 a5 a6 a7 => ?_, rfl⟩⟩
          have c1 := nI_inj (by omega) (by omega) a1
          have c2 := nI_inj (by omega) (by omega) a3
          have c3 := nI_inj (by omega) (by omega) a5
          subst c1; subst c2; subst c3
          rw [hk] at a7
          cases a7
        · have eo : oth (Rl d f x) j = nI k := by unfold oth; rw [hk]
          have hkl : k < 896 := (sel_mem.mp (List.mem_of_getElem? hk)).1
          rw [eo, if_neg (nI_m1 (by omega))]
          by_cases hw0 : w = 0
          · subst hw0
            rw [if_pos (show nI 0 = (0 : Int32) from rfl), show nI k / 128 = nI (k / 128) from pk_div (d := 128) (by omega) (by omega) (by omega)]
            exact ⟨_, rfl, Or.inl ⟨f, x, j, k, rfl, hf, rfl, hx, rfl, hj, hk, Or.inl ⟨rfl, rfl⟩⟩⟩
          · have hw1 : w = 1 := by omega
            subst hw1
            rw [if_neg (show ¬ nI 1 = (0 : Int32) by decide), show nI k - nI k / 128 * 128 = nI (k % 128) from pk_rem (d := 128) (by omega) (by omega) (by omega)]
            exact ⟨_, rfl, Or.inl ⟨f, x, j, k, rfl, hf, rfl, hx, rfl, hj, hk, Or.inr (Or.inl ⟨rfl, rfl⟩)⟩⟩
      by_cases hneg : l3 < 0
      · have e3 : f_Reas_find (nI f) (nI x) l3 s = some (-1, s) := by
          unfold f_Reas_find f_Reas_find_6
          refine itr2_run (N := 0) (I := fun _ y z s1 => y = l3 ∧ z = 0 ∧ s1 = s) (E := fun o => o = some (-1, s)) (fun _ k _ _ _ hk => absurd hk (Nat.not_lt_zero _)) ?_ 0 4096 0 l3 0 s rfl (by omega) ⟨rfl, rfl, rfl⟩
          rintro rec y z s1 ⟨rfl, rfl, rfl⟩
          rw [if_neg (by decide), if_pos hneg]
        rw [e3, bnd_some, if_pos rfl]
        refine ⟨_, rfl, Or.inr ⟨fun f' x' j' k' a1 a2 a3 a4 a5 a6 a7 => ?_, rfl⟩⟩
        rw [a5] at hneg
        exact nI_pos a6 hneg
      · obtain ⟨j, hj, e3⟩ := nI_of_nn hneg
        exact fin j hj e3
    · rw [e, bnd_some, if_pos rfl]
      refine ⟨_, rfl, Or.inr ⟨fun f x j k a1 a2 a3 a4 a5 a6 a7 => ?_, rfl⟩⟩
      rw [hn f x a1 a2 a3 a4] at a7
      cases a7
  · have e2 : f_FU_within l4 2 s = some (0, s) := within_no (n := 2) (by omega) hno s
    rw [e2, bnd_some, if_pos rfl]
    exact none_ (fun e => hno 0 (by omega) e) (fun e => hno 1 (by omega) e)
end Rq
