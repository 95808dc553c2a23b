theorem hc1_ws {b : Nat} {ad : Nat → Nat} {ws ws' : va_W} {tys : List (ClassId × FieldType)} {i : Nat} {c : AC} (e : ws'[i]? = ws[i]?) (hh : hc1 b ad ws tys i c) : hc1 b ad ws' tys i c := by
  rcases c with ⟨ty, n, f⟩ | ⟨ci, fs⟩
  · obtain ⟨cA, t0, h1, h2⟩ := hh
    exact ⟨cA, t0, e.trans h1, h2⟩
  · exact e.trans hh
theorem hm_set {b : Nat} {ad : Nat → Nat} {h : List AC} {ws : va_W} {tys : List (ClassId × FieldType)} {i : Nat} {c0 c : AC} {e : va_E} (hM : hm b ad h ws tys) (hi : h[i]? = some c0)
    (hc : ∀ ws' : va_W, ws'[i]? = some (ad i, e) → hc1 b ad ws' tys i c) : hm b ad (h.set i c) (ws.set i (ad i, e)) tys := by
  have hl : i < h.length := (List.getElem?_eq_some_iff.mp hi).1
  refine ⟨by simpa using hM.1, fun j cj hj => ?_⟩
  by_cases hij : j = i
  · subst hij
    rw [List.getElem?_set_self hl] at hj
    cases hj
    exact hc _ (List.getElem?_set_self (by rw [hM.1]; exact hl))
  · rw [List.getElem?_set_ne (Ne.symm hij)] at hj
    exact hc1_ws (List.getElem?_set_ne (Ne.symm hij)) (hM.2 j cj hj)
theorem hm_push {b : Nat} {ad ad' : Nat → Nat} {h : List AC} {ws : va_W} {tys tx : List (ClassId × FieldType)} {c : AC} {e : va_E} (hM : hm b ad h ws tys) (hag : agr h.length (h.length + 1) ad ad') (hok : h.all (okc h.length (h.length + 1)) = true)
    (hnew : hc1 b ad' (ws ++ [(ad' h.length, e)]) (tys ++ tx) h.length c) : hm b ad' (h ++ [c]) (ws ++ [(ad' h.length, e)]) (tys ++ tx) := by
  refine ⟨by simp [hM.1], fun j cj hj => ?_⟩
  by_cases hl : j < h.length
  · rw [List.getElem?_append_left hl] at hj
    have e1 : (ws ++ [(ad' h.length, e)])[j]? = ws[j]? := List.getElem?_append_left (by rw [hM.1]; exact hl)
    have e2 : ad' j = ad j := hag j (Or.inl hl)
    have h0 := hM.2 j cj hj
    have hk := List.all_eq_true.mp hok cj (List.mem_of_getElem? hj)
    rcases cj with ⟨ty, n, f⟩ | ⟨ci, fs⟩
    · obtain ⟨cA, t0, h1, h2⟩ := h0
      refine ⟨cA, t0, by rw [e1, e2]; exact h1, ?_⟩
      rw [List.getElem?_append_left (List.getElem?_eq_some_iff.mp h2).1]
      exact h2
    · show (ws ++ [(ad' h.length, e)])[j]? = some (ad' j, .inr (ci, fs.map (cv b ad')))
      rw [e1, e2, agr_map hag hk]
      exact h0
  · rw [List.getElem?_append_right (by omega)] at hj
    have hz : j - h.length < 1 := (List.getElem?_eq_some_iff.mp hj).1
    obtain rfl : j = h.length := by omega
    rw [Nat.sub_self] at hj
    cases hj
    exact hnew
def adx (ad : Nat → Nat) (n a : Nat) : Nat → Nat := fun i => if i = n then a else ad i
theorem adx_agr (ad : Nat → Nat) (n a : Nat) : agr n (n + 1) ad (adx ad n a) := fun i hi => if_neg (by omega)
theorem adx_at (ad : Nat → Nat) (n a : Nat) : adx ad n a n = a := if_pos rfl
theorem agr_push {n0 n : Nat} {ad0 ad ad' : Nat → Nat} (h : agr n0 n ad0 ad) (h1 : agr n (n + 1) ad ad') (hle : n0 ≤ n) : agr n0 (n + 1) ad0 ad' := fun i hi => by
  rw [h1 i (by omega)]
  exact h i (by omega)
theorem agr_trans {n0 n n' : Nat} {ad0 ad ad' : Nat → Nat} (h : agr n0 n ad0 ad) (h1 : agr n n' ad ad') (hle : n0 ≤ n) (hle' : n ≤ n') : agr n0 n' ad0 ad' := fun i hi => by
  rw [h1 i (by omega)]
  exact h i (by omega)
theorem cat_sum (b : Nat) (ad : Nat → Nat) (st : List AV) : ((st.map (cv b ad)).map fun v => v.category).sum = st.length := by
  induction st with
  | nil => rfl
  | cons v t ih =>
    simp only [List.map_cons, List.sum_cons, List.length_cons, ih, cv_cat]
    omega
/-- what a field of the type can hold -/
def okt : FieldType → AV → Prop
  | .int, .inl _ => True
  | .boolean, .inl x => x = 0 ∨ x = 1
  | .object _, .inr _ => True
  | .array _, .inr _ => True
  | _, _ => False
theorem okt_n {ty : FieldType} {v : AV} (hv : okt ty v) (b : Nat) (ad : Nat → Nat) : narrow ty (cv b ad v) = cv b ad v ∧ fits ty (cv b ad v) = true := by
  rcases v with x | (_ | _) | i <;> cases ty <;> simp only [okt] at hv <;> first | exact ⟨rfl, rfl⟩ | (rcases hv with rfl | rfl <;> exact ⟨rfl, rfl⟩)
def LF (own : String) (idx : Nat) (f : String × String × String × Bool) : Prop := Cond.fieldLink own idx f.1 f.2.1 f.2.2.1 ∈ Wt ∨ ∃ host, Cond.fieldLinkNest own idx f.1 f.2.1 f.2.2.1 host ∈ Wt
def FG (own : String) (idx ci k : Nat) : Prop := ∃ (C : String) (T : u_T) (N : Nat), vwCl[ci]? = some (C, T, N) ∧ (∀ w ∈ u_ws C T N, w ∈ Wt) ∧ k < N ∧ LF own idx (T k)
def FP (own : String) (idx ci k : Nat) (ty : FieldType) (fin : Bool) : Prop := ∃ (C : String) (T : u_T) (N : Nat) (ty0 : Nat → FieldType), vwCl[ci]? = some (C, T, N) ∧ (∀ w ∈ u_ws C T N, w ∈ Wt) ∧ (∀ k, k < N → parseFieldDescriptor (T k).2.2.1 = some (ty0 k)) ∧ (∀ a, a < N → ∀ b, b < N → a ≠ b → (T a).2.1 ≠ (T b).2.1) ∧ k < N ∧ Cond.fieldLink own idx (T k).1 (T k).2.1 (T k).2.2.1 ∈ Wt ∧ (T k).2.2.2 = fin ∧ (T k).1 = own ∧ parseFieldDescriptor (T k).2.2.1 = some ty
def FPo (own : String) (idx ci k : Nat) (ty : FieldType) : Prop := ∃ (C : String) (T : u_T) (N : Nat) (ty0 : Nat → FieldType), vwCl[ci]? = some (C, T, N) ∧ (∀ w ∈ u_ws C T N, w ∈ Wt) ∧ (∀ k, k < N → parseFieldDescriptor (T k).2.2.1 = some (ty0 k)) ∧ (∀ a, a < N → ∀ b, b < N → a ≠ b → (T a).2.1 ≠ (T b).2.1) ∧ k < N ∧ LF own idx (T k) ∧ (T k).2.2.2 = false ∧ parseFieldDescriptor (T k).2.2.1 = some ty
def NK (own : String) (idx ci N : Nat) (dfl : List AV) : Prop := ∃ (C : String) (T : u_T) (ty : Nat → FieldType), vwCl[ci]? = some (C, T, N) ∧ (∀ w ∈ u_ws C T N, w ∈ Wt) ∧ (∀ k, k < N → parseFieldDescriptor (T k).2.2.1 = some (ty k)) ∧ Cond.classLink own idx C ∈ Wt ∧ Cond.instantiable C N ∈ Wt ∧ Cond.initialized C ∈ Wt ∧ ∀ (b : Nat) (ad : Nat → Nat) (j : Nat), j < N → defaultValue (ty j) = vp_V (dfl.map (cv b ad)) j
section EvHeap
variable {q : MI} {X : Option (Nat × (Nat → Int32))} {Φ : Option AV → List AC → Prop} {pc : Nat} {ρ : List (Option AV)} {st : List AV} {h : List AC} {cu su : Nat}
theorem Ev.get {idx i ci k : Nat} {fs : List AV} {v : AV} (hd : decode (mb q) pc = .ok (.getfield idx, 3)) (hf : FG (my q).cls idx ci k) (ho : h[i]? = some (ao ci fs)) (hv : fs[k]? = some v) (kk : Ev q X Φ (pc + 3) ρ (v :: st) h cu su) : Ev q X Φ pc ρ (vr i :: st) h cu su := by
  intro p l e s m args below meth c Q D b A n0 ad0 C ad ws tys H locs ls L S
  obtain ⟨C0, T, N, hc, hin, hk, hl | ⟨host, hl⟩⟩ := hf
  · exact va_get C.1.1 C.1.2.1 C.1.2.2.2.2 hin C.1.2.2.2.1 S.2.2.1 S.2.1 i (S.1.2 i _ ho) hc k hk (C.1.2.2.2.2 _ hl) (fun _ h9 => h9) (by rw [List.getElem?_map, hv]; rfl) hd (kk p l e s m args below meth c Q D b A n0 ad0 C ad ws tys H locs ls L S)
  · exact va_getN C.1.1 C.1.2.1 C.1.2.2.2.2 hin C.1.2.2.2.1 S.2.2.1 S.2.1 i (S.1.2 i _ ho) hc k hk (C.1.2.2.2.2 _ hl) (fun _ h9 => h9) (by rw [List.getElem?_map, hv]; rfl) hd (kk p l e s m args below meth c Q D b A n0 ad0 C ad ws tys H locs ls L S)
theorem Ev.put {idx i ci k : Nat} {ty : FieldType} {fs : List AV} {v : AV} {h' : List AC} (hd : decode (mb q) pc = .ok (.putfield idx, 3)) (hf : FPo (my q).cls idx ci k ty) (hw : okt ty v) (ho : h[i]? = some (ao ci fs)) (hl : k < fs.length) (hh : h.set i (ao ci (fs.set k v)) = h') (kk : Ev q X Φ (pc + 3) ρ st h' cu su) : Ev q X Φ pc ρ (v :: vr i :: st) h cu su := by
  intro p l e s m args below meth c Q D b A n0 ad0 C ad ws tys H locs ls L S
  obtain ⟨C0, T, N, ty0, hc, hin, hty, hnm, hk, hlk, hfin, hd2⟩ := hf
  obtain ⟨hM, hP, hK, hD, hS, hag, hle⟩ := S
  subst hh
  have eS : (fs.set k v).map (cv b ad) = (fs.map (cv b ad)).set k (cv b ad v) := List.map_set
  have go : ∀ (H1 : Heap) (locs1 : List Loc), va_P D vwCl (ws.set i (ad i, .inr (ci, (fs.map (cv b ad)).set k (cv b ad v)))) H1 → va_D A (ws.set i (ad i, .inr (ci, (fs.map (cv b ad)).set k (cv b ad v)))) → va_S A s.heap H1 locs1 → W p l e (mR q) s m args below meth c H1 locs1 cu su Q (F0 m (pc + 3) ls (st.map (cv b ad))) := by
    intro H1 locs1 hP1 hD1 hS1
    refine kk p l e s m args below meth c Q D b A n0 ad0 C ad _ tys H1 locs1 ls L ⟨hm_set hM ho (fun ws' hw' => ?_), hP1, hK, hD1, hS1, by simpa using hag, by simpa using hle⟩
    show ws'[i]? = some (ad i, .inr (ci, (fs.set k v).map (cv b ad)))
    rw [eS]
    exact hw'
  rcases hlk with hlk | ⟨host, hlk⟩
  · exact va_put C.1.1 C.1.2.1 C.1.2.2.2.2 hin ty0 hty hnm C.1.2.2.2.1 hK hP hD hS i (hM.2 i _ ho) hc k hk (C.1.2.2.2.2 _ hlk) (fun _ h9 => h9) hfin hd2 (okt_n hw b ad).1 (okt_n hw b ad).2 (by simpa using hl) hd go
  · exact va_putN C.1.1 C.1.2.1 C.1.2.2.2.2 hin ty0 hty hnm C.1.2.2.2.1 hK hP hD hS i (hM.2 i _ ho) hc k hk (C.1.2.2.2.2 _ hlk) (fun _ h9 => h9) hfin hd2 (okt_n hw b ad).1 (okt_n hw b ad).2 (by simpa using hl) hd go
theorem Ev.putF {idx i ci k : Nat} {ty : FieldType} {fs : List AV} {v : AV} {h' : List AC} (hd : decode (mb q) pc = .ok (.putfield idx, 3)) (hf : FP (my q).cls idx ci k ty true) (hi : (my q).name = "<init>") (hw : okt ty v) (ho : h[i]? = some (ao ci fs)) (hl : k < fs.length) (hh : h.set i (ao ci (fs.set k v)) = h') (kk : Ev q X Φ (pc + 3) ρ st h' cu su) : Ev q X Φ pc ρ (v :: vr i :: st) h cu su := by
  intro p l e s m args below meth c Q D b A n0 ad0 C ad ws tys H locs ls L S
  obtain ⟨C0, T, N, ty0, hc, hin, hty, hnm, hk, hlk, hfin, hdecl, hd2⟩ := hf
  obtain ⟨hM, hP, hK, hD, hS, hag, hle⟩ := S
  subst hh
  have eS : (fs.set k v).map (cv b ad) = (fs.map (cv b ad)).set k (cv b ad v) := List.map_set
  refine va_putF C.1.1 C.1.2.1 C.1.2.2.2.2 hin ty0 hty hnm C.1.2.2.2.1 hK hP hD hS i (hM.2 i _ ho) hc k hk (C.1.2.2.2.2 _ hlk) (fun _ h9 => h9) hfin (C.2.1.1 hi) hdecl hd2 (okt_n hw b ad).1 (okt_n hw b ad).2 (by simpa using hl) hd (fun H1 locs1 hP1 hD1 hS1 => ?_)
  refine kk p l e s m args below meth c Q D b A n0 ad0 C ad _ tys H1 locs1 ls L ⟨hm_set hM ho (fun ws' hw' => ?_), hP1, hK, hD1, hS1, by simpa using hag, by simpa using hle⟩
  show ws'[i]? = some (ad i, .inr (ci, (fs.set k v).map (cv b ad)))
  rw [eS]
  exact hw'
theorem Ev.iald {i n : Nat} {f : Nat → Int32} {x : Int32} (hd : decode (mb q) pc = .ok (.iaload, 1)) (ha : h[i]? = some (ai .int n f)) (hin : vp_in x n) (kk : Ev q X Φ (pc + 1) ρ (vi (f x.toNatClampNeg) :: st) h cu su) : Ev q X Φ pc ρ (vi x :: vr i :: st) h cu su := by
  intro p l e s m args below meth c Q D b A n0 ad0 C ad ws tys H locs ls L S
  obtain ⟨cA, t0, h1, h2⟩ := S.1.2 i _ ha
  exact va_iald C.1.1 C.1.2.1 S.2.2.1 S.2.1 i t0 h1 h2 hin hd (kk p l e s m args below meth c Q D b A n0 ad0 C ad ws tys H locs ls L S)
theorem Ev.zald {i n : Nat} {f : Nat → Int32} {x : Int32} (hd : decode (mb q) pc = .ok (.baload, 1)) (ha : h[i]? = some (ai .boolean n f)) (hin : vp_in x n) (kk : Ev q X Φ (pc + 1) ρ (vi (f x.toNatClampNeg) :: st) h cu su) : Ev q X Φ pc ρ (vi x :: vr i :: st) h cu su := by
  intro p l e s m args below meth c Q D b A n0 ad0 C ad ws tys H locs ls L S
  obtain ⟨cA, t0, h1, h2⟩ := S.1.2 i _ ha
  exact va_zald C.1.1 C.1.2.1 S.2.2.1 S.2.1 i t0 h1 h2 hin hd (kk p l e s m args below meth c Q D b A n0 ad0 C ad ws tys H locs ls L S)
theorem Ev.iast {i n : Nat} {f : Nat → Int32} {x y : Int32} {h' : List AC} (hd : decode (mb q) pc = .ok (.iastore, 1)) (ha : h[i]? = some (ai .int n f)) (hin : vp_in x n) (hh : h.set i (ai .int n (upd f x.toNatClampNeg y)) = h') (kk : Ev q X Φ (pc + 1) ρ st h' cu su) : Ev q X Φ pc ρ (vi y :: vi x :: vr i :: st) h cu su := by
  intro p l e s m args below meth c Q D b A n0 ad0 C ad ws tys H locs ls L S
  obtain ⟨hM, hP, hK, hD, hS, hag, hle⟩ := S
  obtain ⟨cA, t0, h1, h2⟩ := hM.2 i _ ha
  subst hh
  refine va_iast C.1.1 C.1.2.1 hK hP hD hS i t0 h1 h2 hin hd (fun H1 locs1 hP1 hD1 hS1 => ?_)
  exact kk p l e s m args below meth c Q D b A n0 ad0 C ad _ tys H1 locs1 ls L ⟨hm_set hM ha (fun ws' hw' => ⟨cA, t0, hw', h2⟩), hP1, hK, hD1, hS1, by simpa using hag, by simpa using hle⟩
theorem Ev.zast {i n : Nat} {f : Nat → Int32} {x y : Int32} {h' : List AC} (hd : decode (mb q) pc = .ok (.bastore, 1)) (ha : h[i]? = some (ai .boolean n f)) (hin : vp_in x n) (hy : vp_nar .boolean y = y) (hh : h.set i (ai .boolean n (upd f x.toNatClampNeg y)) = h') (kk : Ev q X Φ (pc + 1) ρ st h' cu su) : Ev q X Φ pc ρ (vi y :: vi x :: vr i :: st) h cu su := by
  intro p l e s m args below meth c Q D b A n0 ad0 C ad ws tys H locs ls L S
  obtain ⟨hM, hP, hK, hD, hS, hag, hle⟩ := S
  obtain ⟨cA, t0, h1, h2⟩ := hM.2 i _ ha
  subst hh
  refine va_zast C.1.1 C.1.2.1 hK hP hD hS i t0 h1 h2 hin hd (fun H1 locs1 hP1 hD1 hS1 => ?_)
  rw [hy] at hP1 hD1
  exact kk p l e s m args below meth c Q D b A n0 ad0 C ad _ tys H1 locs1 ls L ⟨hm_set hM ha (fun ws' hw' => ⟨cA, t0, hw', h2⟩), hP1, hK, hD1, hS1, by simpa using hag, by simpa using hle⟩
theorem Ev.alen {i n : Nat} {ty : FieldType} {f : Nat → Int32} {v : Int32} (hd : decode (mb q) pc = .ok (.arraylength, 1)) (ha : h[i]? = some (ai ty n f)) (hv : Int32.ofNat n = v) (kk : Ev q X Φ (pc + 1) ρ (vi v :: st) h cu su) : Ev q X Φ pc ρ (vr i :: st) h cu su := by
  intro p l e s m args below meth c Q D b A n0 ad0 C ad ws tys H locs ls L S
  obtain ⟨cA, t0, h1, h2⟩ := S.1.2 i _ ha
  exact va_alen C.1.1 C.1.2.1 S.2.2.1 S.2.1 i t0 h1 h2 hv hd (kk p l e s m args below meth c Q D b A n0 ad0 C ad ws tys H locs ls L S)
theorem Ev.sld {L0 : Nat} {xs : Nat → Int32} {x : Int32} (hX : X = some (L0, xs)) (hd : decode (mb q) pc = .ok (.iaload, 1)) (hin : vp_in x L0) (kk : Ev q X Φ (pc + 1) ρ (vi (xs x.toNatClampNeg) :: st) h cu su) : Ev q X Φ pc ρ (vi x :: vs :: st) h cu su := by
  intro p l e s m args below meth c Q D b A n0 ad0 C ad ws tys H locs ls L S
  obtain ⟨h1, h2, h3⟩ := C.2.2.2.1 L0 xs hX
  exact va_sld C.1.1 C.1.2.1 h1 h2 h3 S.2.2.2.2.1 hin hd (kk p l e s m args below meth c Q D b A n0 ad0 C ad ws tys H locs ls L S)
theorem Ev.slen {L0 : Nat} {xs : Nat → Int32} (hX : X = some (L0, xs)) (hd : decode (mb q) pc = .ok (.arraylength, 1)) (kk : Ev q X Φ (pc + 1) ρ (vi (Int32.ofNat L0) :: st) h cu su) : Ev q X Φ pc ρ (vs :: st) h cu su := by
  intro p l e s m args below meth c Q D b A n0 ad0 C ad ws tys H locs ls L S
  obtain ⟨h1, h2, h3⟩ := C.2.2.2.1 L0 xs hX
  exact va_slen C.1.1 C.1.2.1 h1 h2 h3 S.2.2.2.2.1 hd (kk p l e s m args below meth c Q D b A n0 ad0 C ad ws tys H locs ls L S)
theorem Ev.newa {at0 : ArrayType} {ty : FieldType} {x : Int32} {N n : Nat} {h' : List AC} (hd : decode (mb q) pc = .ok (.newarray at0, 2)) (hty : newarray.typeOf at0 = ty) (hdf : defaultValue ty = .int 0) (hw : Cond.arrayClass ty ∈ Wt) (hx : ¬ x < 0) (hN : x.toNatClampNeg = N) (hb : N * componentBytes ty ≤ 536870912) (hc : cu + 1 ≤ (mR q).cells) (hs : su + N ≤ (mR q).slots)
    (hn : h.length = n) (hok : okS n (n + 1) ρ st h = true) (hh : h ++ [ai ty N (fun _ => 0)] = h') (kk : Ev q X Φ (pc + 2) ρ (vr n :: st) h' (cu + 1) (su + N)) : Ev q X Φ pc ρ (vi x :: st) h cu su := by
  intro p l e s m args below meth c Q D b A n0 ad0 C ad ws tys H locs ls L S
  obtain ⟨hM, hP, hK, hD, hS, hag, hle⟩ := S
  subst hty; subst hh; subst hn
  simp only [okS, Bool.and_eq_true] at hok
  refine va_newa (a0 := (N, .inl (fun _ => 0))) C.1.1 C.1.2.1 (C.1.2.2.2.2 _ hw) rfl hK hP hD hS C.2.2.1 (fun cA => by rw [hdf]; rfl) hx hN hb hc hs hd (fun a cA H1 hK1 hP1 hD1 hS1 => ?_)
  have hag1 := adx_agr ad h.length a
  have ea := adx_at ad h.length a
  have est : (vr h.length :: st).map (cv b (adx ad h.length a)) = .ref a :: st.map (cv b ad) := by
    rw [List.map_cons, agr_map hag1 hok.1.2]
    show Value.ref (adx ad h.length a h.length) :: _ = _
    rw [ea]
  rw [← ea] at hP1 hD1
  rw [← est]
  refine kk p l e s m args below meth c Q D b A n0 ad0 C (adx ad h.length a) _ _ H1 locs ls (agr_lm hag1 hok.1.1 L) ⟨hm_push hM hag1 hok.2 ⟨cA, tys.length, ?_, ?_⟩, hP1, hK1, hD1, hS1, ?_, ?_⟩
  · rw [← hM.1, List.getElem?_append_right (Nat.le_refl _), Nat.sub_self]; rfl
  · rw [List.getElem?_append_right (Nat.le_refl _), Nat.sub_self]; rfl
  · rw [List.length_append]; exact agr_push hag hag1 hle
  · rw [List.length_append]; omega
theorem Ev.new {idx ci N n : Nat} {dfl : List AV} {h' : List AC} (hd : decode (mb q) pc = .ok (.new idx, 3)) (hk : NK (my q).cls idx ci N dfl) (hc : cu + 1 ≤ (mR q).cells) (hs : su + N ≤ (mR q).slots) (hn : h.length = n) (hok : okS n (n + 1) ρ st h = true) (hdok : dfl.all (okv n (n + 1)) = true)
    (hh : h ++ [ao ci dfl] = h') (kk : Ev q X Φ (pc + 3) ρ (vr n :: st) h' (cu + 1) (su + N)) : Ev q X Φ pc ρ st h cu su := by
  intro p l e s m args below meth c Q D b A n0 ad0 C ad ws tys H locs ls L S
  obtain ⟨hM, hP, hK, hD, hS, hag, hle⟩ := S
  obtain ⟨C0, T, ty, hcl, hin, hty, hlk, hins, hini, hdf⟩ := hk
  subst hh; subst hn
  simp only [okS, Bool.and_eq_true] at hok
  refine va_new (fs := dfl.map (cv b ad)) C.1.1 C.1.2.1 C.1.2.2.2.2 hin ty hty C.1.2.2.2.1 (C.1.2.2.2.2 _ hlk) (C.1.2.2.2.2 _ hins) (C.1.2.2.2.2 _ hini) hK hP hD hS C.2.2.1 hcl (hdf b ad) hc hs hd (fun a H1 hP1 hD1 hS1 => ?_)
  have hag1 := adx_agr ad h.length a
  have ea := adx_at ad h.length a
  have est : (vr h.length :: st).map (cv b (adx ad h.length a)) = .ref a :: st.map (cv b ad) := by
    rw [List.map_cons, agr_map hag1 hok.1.2]
    show Value.ref (adx ad h.length a h.length) :: _ = _
    rw [ea]
  rw [← ea] at hP1 hD1
  rw [← est]
  have hM1 := hm_push (tx := []) (c := ao ci dfl) (e := .inr (ci, dfl.map (cv b ad))) hM hag1 hok.2 (by
    show (ws ++ [(adx ad h.length a h.length, .inr (ci, dfl.map (cv b ad)))])[h.length]? = some (adx ad h.length a h.length, .inr (ci, dfl.map (cv b (adx ad h.length a))))
    rw [agr_map hag1 hdok, ← hM.1, List.getElem?_append_right (Nat.le_refl _), Nat.sub_self]; rfl)
  rw [List.append_nil] at hM1
  refine kk p l e s m args below meth c Q D b A n0 ad0 C (adx ad h.length a) _ _ H1 locs ls (agr_lm hag1 hok.1.1 L) ⟨hM1, hP1, hK, hD1, hS1, ?_, ?_⟩
  · rw [List.length_append]; exact agr_push hag hag1 hle
  · rw [List.length_append]; omega
theorem Ev.objInit {idx i : Nat} (hd : decode (mb q) pc = .ok (.invokespecial idx, 3)) (hl : Cond.methodLink (my q).cls idx objectInit ∈ Wt) (hi : Cond.instanceMethod objectInit ∈ Wt) (hco : Cond.code objectInit ⟨#[0xb1]⟩ 1 none ∈ Wt) (hfr : 1 ≤ (mR q).frames) (hlo : st.length + 12 ≤ (mR q).locals) (k : Ev q X Φ (pc + 3) ρ st h cu su) : Ev q X Φ pc ρ (vr i :: st) h cu su := by
  intro p l e s m args below meth c Q D b A n0 ad0 C ad ws tys H locs ls L S
  refine W.objInit C.1.1 C.1.2.1 C.1.2.2.2.1 (C.1.2.2.2.2 _ hl) (C.1.2.2.2.2 _ hi) (C.1.2.2.2.2 _ hco) rfl (by rw [C.1.2.2.1]; exact L.1) (a := ad i) (rest := st.map (cv b ad)) rfl hd hfr ?_ (k p l e s m args below meth c Q D b A n0 ad0 C ad ws tys H locs ls L S)
  rw [cat_sum]
  show 2 * 0 + st.length + 12 ≤ _
  omega
end EvHeap
