/-! the worlds of all methods in one form: values and cells by number -/
abbrev AV : Type := Int32 ⊕ (Bool ⊕ Nat)
abbrev vi (x : Int32) : AV := Sum.inl x
abbrev vr (i : Nat) : AV := Sum.inr (Sum.inr i)
abbrev vn : AV := Sum.inr (Sum.inl false)
abbrev vs : AV := Sum.inr (Sum.inl true)
def cv (b : Nat) (ad : Nat → Nat) : AV → Value
  | .inl x => .int x
  | .inr (.inl false) => .null
  | .inr (.inl true) => .ref b
  | .inr (.inr i) => .ref (ad i)
abbrev AC : Type := (FieldType × Nat × (Nat → Int32)) ⊕ (Nat × List AV)
abbrev ai (ty : FieldType) (n : Nat) (f : Nat → Int32) : AC := Sum.inl (ty, n, f)
abbrev ao (ci : Nat) (fs : List AV) : AC := Sum.inr (ci, fs)
abbrev MI : Type := MethodName × ByteArray × Nat × Option FieldType × Room
abbrev my (q : MI) : MethodName := q.1
abbrev mb (q : MI) : ByteArray := q.2.1
abbrev ml (q : MI) : Nat := q.2.2.1
abbrev mr (q : MI) : Option FieldType := q.2.2.2.1
abbrev mR (q : MI) : Room := q.2.2.2.2
/-- the words that every method has: all good ones of the tables -/
def Wt : List Cond := lw_tbl.filter goodWord
theorem Wt_good {w : Cond} (h : w ∈ Wt) : (w.onTables && w.keeps) = true ∨ ∃ ty, w = .arrayClass ty := good_of_word (List.mem_filter.mp h).2
theorem Wt_in {w : Cond} (h : w ∈ Wt) : w ∈ lw_tbl := (List.mem_filter.mp h).1
def Ww (q : MI) : List Cond := .code (my q) (mb q) (ml q) (mr q) :: Wt
theorem Ww_good {q : MI} (h : Cond.code (my q) (mb q) (ml q) (mr q) ∈ Wt) : GoodIn Wt (Ww q) := by
  intro w hw
  rcases List.mem_cons.mp hw with rfl | hw
  · exact ⟨h, Wt_good h⟩
  · exact ⟨hw, Wt_good hw⟩
/-- the links between nest mates: these hold at every start -/
def isNest : Cond → Bool
  | .methodLinkNest _ _ _ _ => true
  | _ => false
def Wn : List Cond := tables_1.filter isNest
def NN (U : State) : Prop := ∀ w ∈ Wn, va_Nw w U
theorem Wn_on {w : Cond} (h : w ∈ Wn) : w.onTables = true := by
  have h1 := (List.mem_filter.mp h).2
  cases w <;> first | rfl | simp [isNest] at h1
theorem NN.warm {s U : State} (hW : s.WarmedH U.vm) (h : NN s) : NN U := fun w hw => by
  have h1 := (List.mem_filter.mp hw).2
  have h2 := h w hw
  cases w <;> first | exact va_Nw.warmM hW h2 | simp [isNest] at h1
theorem NN.same {s U : State} (e : s.vm = U.vm) (h : NN s) : NN U := fun w hw => va_Nw.same (Wn_on hw) e (h w hw)
theorem cv_cat (b : Nat) (ad : Nat → Nat) (v : AV) : (cv b ad v).category = 1 := by
  rcases v with x | (_ | _) | i <;> rfl
/-- the heap's cells, by number -/
def hc1 (b : Nat) (ad : Nat → Nat) (ws : va_W) (tys : List (ClassId × FieldType)) (i : Nat) (c : AC) : Prop := match c with
  | .inl (ty, n, f) => ∃ (cA : ClassId) (t0 : Nat), ws[i]? = some (ad i, .inl (cA, n, .inl f)) ∧ tys[t0]? = some (cA, ty)
  | .inr (ci, fs) => ws[i]? = some (ad i, .inr (ci, fs.map (cv b ad)))
def hm (b : Nat) (ad : Nat → Nat) (h : List AC) (ws : va_W) (tys : List (ClassId × FieldType)) : Prop :=
  ws.length = h.length ∧ ∀ (i : Nat) (c : AC), h[i]? = some c → hc1 b ad ws tys i c
/-- the locals -/
def lm (b : Nat) (ad : Nat → Nat) (nL : Nat) (ρ : List (Option AV)) (ls : Array Slot) : Prop :=
  ls.size = nL ∧ lv_wf ls ∧ ∀ (i : Nat) (v : AV), ρ[i]? = some (some v) → ls[i]? = some (.val (cv b ad v))
def lvl (b : Nat) (ad : Nat → Nat) : Nat → List (Option AV) → List (Nat × Value)
  | _, [] => []
  | n, none :: r => lvl b ad (n + 1) r
  | n, some v :: r => (n, cv b ad v) :: lvl b ad (n + 1) r
theorem lvl_mem (b : Nat) (ad : Nat → Nat) : ∀ (ρ : List (Option AV)) (n : Nat) (q : Nat × Value), q ∈ lvl b ad n ρ ↔ ∃ (i : Nat) (v : AV), ρ[i]? = some (some v) ∧ q = (n + i, cv b ad v)
  | [], n, q => by simp [lvl]
  | none :: r, n, q => by
    rw [lvl, lvl_mem b ad r (n + 1) q]
    constructor
    · rintro ⟨i, v, h1, rfl⟩
      exact ⟨i + 1, v, by simpa using h1, by rw [show n + 1 + i = n + (i + 1) by omega]⟩
    · rintro ⟨i, v, h1, rfl⟩
      cases i with
      | zero => simp at h1
      | succ i => exact ⟨i, v, by simpa using h1, by rw [show n + 1 + i = n + (i + 1) by omega]⟩
  | some w :: r, n, q => by
    rw [lvl, List.mem_cons, lvl_mem b ad r (n + 1) q]
    constructor
    · rintro (rfl | ⟨i, v, h1, rfl⟩)
      · exact ⟨0, w, rfl, rfl⟩
      · exact ⟨i + 1, v, by simpa using h1, by rw [show n + 1 + i = n + (i + 1) by omega]⟩
    · rintro ⟨i, v, h1, rfl⟩
      cases i with
      | zero =>
        have h2 : w = v := by simpa using h1
        exact Or.inl (by rw [h2]; rfl)
      | succ i => exact Or.inr ⟨i, v, by simpa using h1, by rw [show n + 1 + i = n + (i + 1) by omega]⟩
theorem lm_has {b : Nat} {ad : Nat → Nat} {nL : Nat} {ρ : List (Option AV)} {ls : Array Slot} (h : lm b ad nL ρ ls) : lv_has ls nL (lvl b ad 0 ρ) := by
  refine ⟨h.1, h.2.1, fun q hq => ?_⟩
  obtain ⟨i, v, h1, rfl⟩ := (lvl_mem b ad ρ 0 q).mp hq
  simpa using h.2.2 i v h1
theorem lm_of_has {b : Nat} {ad : Nat → Nat} {nL : Nat} {ρ ρ' : List (Option AV)} {ls : Array Slot} {i : Nat} {v : AV} (hρ : ρ.set i (some v) = ρ')
    (h : lv_has ls nL ((i, cv b ad v) :: (lvl b ad 0 ρ).filter (fun q => !(q.1 == i) && !(q.1 + 1 == i && q.2.category == 2)))) : lm b ad nL ρ' ls := by
  refine ⟨h.1, h.2.1, fun j w hj => ?_⟩
  subst hρ
  by_cases hij : j = i
  · subst hij
    have hl : j < ρ.length := by
      have := (List.getElem?_eq_some_iff.mp hj).1
      simpa using this
    rw [List.getElem?_set_self hl] at hj
    cases hj
    exact h.2.2 (j, cv b ad v) List.mem_cons_self
  · rw [List.getElem?_set_ne (Ne.symm hij)] at hj
    refine h.2.2 (j, cv b ad w) (List.mem_cons_of_mem _ (List.mem_filter.mpr ⟨(lvl_mem b ad ρ 0 _).mpr ⟨j, w, hj, by simp⟩, ?_⟩))
    simp [cv_cat, hij]
/-- no reference at the number n -/
def okv (n n' : Nat) : AV → Bool
  | .inr (.inr i) => decide (i < n) || decide (n' ≤ i)
  | _ => true
def okc (n n' : Nat) : AC → Bool
  | .inl _ => true
  | .inr (_, fs) => fs.all (okv n n')
def oko (n n' : Nat) : Option AV → Bool
  | none => true
  | some v => okv n n' v
def okS (n n' : Nat) (ρ : List (Option AV)) (st : List AV) (h : List AC) : Bool := ρ.all (oko n n') && st.all (okv n n') && h.all (okc n n')
/-- two address maps that differ between n and n' alone -/
def agr (n n' : Nat) (ad ad' : Nat → Nat) : Prop := ∀ i : Nat, (i < n ∨ n' ≤ i) → ad' i = ad i
theorem agr_cv {n n' b : Nat} {ad ad' : Nat → Nat} (h : agr n n' ad ad') {v : AV} (hv : okv n n' v = true) : cv b ad' v = cv b ad v := by
  rcases v with x | (_ | _) | i
  · rfl
  · rfl
  · rfl
  · show Value.ref (ad' i) = Value.ref (ad i)
    rw [h i (by simpa [okv] using hv)]
theorem agr_map {n n' b : Nat} {ad ad' : Nat → Nat} (h : agr n n' ad ad') {l : List AV} (hv : l.all (okv n n') = true) : l.map (cv b ad') = l.map (cv b ad) :=
  List.map_congr_left fun v hm => agr_cv h (List.all_eq_true.mp hv v hm)
theorem agr_lm {n n' b nL : Nat} {ad ad' : Nat → Nat} (h : agr n n' ad ad') {ρ : List (Option AV)} {ls : Array Slot} (hv : ρ.all (oko n n') = true) (hl : lm b ad nL ρ ls) : lm b ad' nL ρ ls := by
  refine ⟨hl.1, hl.2.1, fun i v hi => ?_⟩
  rw [agr_cv h (List.all_eq_true.mp hv (some v) (List.mem_of_getElem? hi))]
  exact hl.2.2 i v hi
theorem agr_refl {n n' : Nat} (ad : Nat → Nat) : agr n n' ad ad := fun _ _ => rfl
theorem agr_eq {n : Nat} {ad ad' : Nat → Nat} (h : agr n n ad ad') : ad' = ad := funext fun i => h i (by omega)
/-- what holds of the machine at a method's body, whatever the walk -/
def rk (r : Option AV) (i : Instr) : Prop := match r with
  | none => i = .return_
  | some (.inl _) => i = .ireturn
  | some (.inr _) => i = .areturn
def rn (q : MI) (r : Option AV) : Prop := match r with
  | none => mr q = none
  | some (.inl x) => ∃ ty, mr q = some ty ∧ narrow ty (.int x) = .int x
  | some (.inr _) => ∃ rt, mr q = some rt ∧ ((∃ n, rt = .object n) ∨ ∃ t, rt = .array t)
/-- the state: locals, heap, what has changed -/
def St (q : MI) (D : va_G) (b : Nat) (A : Nat → Prop) (s : State) (n0 : Nat) (ad0 ad : Nat → Nat) (h : List AC) (ws : va_W) (tys : List (ClassId × FieldType)) (H : Heap) (locs : List Loc) : Prop :=
  hm b ad h ws tys ∧ va_P D vwCl ws H ∧ va_K D vwCl tys s ∧ va_D A ws ∧ va_S A s.heap H locs ∧ agr n0 h.length ad0 ad ∧ n0 ≤ h.length
def Cx (q : MI) (X : Option (Nat × (Nat → Int32))) (Φ : Option AV → List AC → Prop) (p : Program) (l : Launch) (e : Env) (s : State) (m : MethodId) (args : Array Value) (below : List Frame) (meth : Method) (c : Code) (Q : State → Prop) (D : va_G) (b : Nat) (A : Nat → Prop) (n0 : Nat) (ad0 : Nat → Nat) : Prop :=
  (p.tables.exec = Jvm.exec ∧ c.code = mb q ∧ c.maxLocals = ml q ∧ s.vm.findClass (my q).cls = some m.cls ∧ ∀ w ∈ Wt, w.before args s = true) ∧
  (((my q).name = "<init>" → meth.name = "<init>") ∧ NN s) ∧ (∀ a : Nat, s.heap.size ≤ a → A a) ∧
  (∀ (L : Nat) (xs : Nat → Int32), X = some (L, xs) → va_X b L xs s s.heap ∧ b < s.heap.size ∧ ¬ A b) ∧
  ∀ (r : Option AV) (h' : List AC) (ad' : Nat → Nat) (ws' : va_W) (tys' : List (ClassId × FieldType)) (H' : Heap) (locs' : List Loc) (pc' : Nat) (ls' : Array Slot) (cu su : Nat) (i : Instr), Φ r h' → St q D b A s n0 ad0 ad' h' ws' tys' H' locs' → cu ≤ (mR q).cells → su ≤ (mR q).slots →
    decode (mb q) pc' = .ok (i, 1) → rk r i → rn q r → W p l e (mR q) s m args below meth c H' locs' cu su Q (F0 m pc' ls' (r.toList.map (cv b ad')))
/-- FROM HERE, with locals ρ, stack st, heap h, cells and slots used: the method ends with Φ -/
def Ev (q : MI) (X : Option (Nat × (Nat → Int32))) (Φ : Option AV → List AC → Prop) (pc : Nat) (ρ : List (Option AV)) (st : List AV) (h : List AC) (cu su : Nat) : Prop :=
  ∀ (p : Program) (l : Launch) (e : Env) (s : State) (m : MethodId) (args : Array Value) (below : List Frame) (meth : Method) (c : Code) (Q : State → Prop) (D : va_G) (b : Nat) (A : Nat → Prop) (n0 : Nat) (ad0 : Nat → Nat),
    Cx q X Φ p l e s m args below meth c Q D b A n0 ad0 → ∀ (ad : Nat → Nat) (ws : va_W) (tys : List (ClassId × FieldType)) (H : Heap) (locs : List Loc) (ls : Array Slot), lm b ad (ml q) ρ ls → St q D b A s n0 ad0 ad h ws tys H locs →
    W p l e (mR q) s m args below meth c H locs cu su Q (F0 m pc ls (st.map (cv b ad)))
/-- a method's contract: from the values avs and the heap h it ends with Φ -/
def QM (D : va_G) (b : Nat) (ad : Nat → Nat) (n : Nat) (Φ : Option AV → List AC → Prop) (A : Nat → Prop) : Array Value → State → Outcome → State → Prop := fun _ st oc t =>
  (∃ (r : Option AV) (h' : List AC) (ad' : Nat → Nat) (ws' : va_W) (tys' : List (ClassId × FieldType)), oc = .returned (r.map (cv b ad')) ∧ Φ r h' ∧ agr n h'.length ad ad' ∧ n ≤ h'.length ∧ hm b ad' h' ws' tys' ∧ va_P D vwCl ws' t.heap ∧ va_K D vwCl tys' t ∧ va_D A ws') ∧ va_F A st t
def EvM (q : MI) (avs : List AV) (h : List AC) (Φ : Option AV → List AC → Prop) : Prop :=
  ∀ (l : Launch) (D : va_G) (b : Nat) (ad : Nat → Nat) (ws : va_W) (tys : List (ClassId × FieldType)) (sz : Nat), hm b ad h ws tys →
    Met l (my q) (Ww q) (mR q) (va_Pc (avs.map (cv b ad)) (fun U => U.heap.size = sz ∧ va_P D vwCl ws U.heap ∧ va_K D vwCl tys U ∧ va_D (fun _ => True) ws ∧ NN U))
      (QM D b ad h.length Φ (va_A ws sz)) (mR q).cells (mR q).slots (va_A ws sz)
