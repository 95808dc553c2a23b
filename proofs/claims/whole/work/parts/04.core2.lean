theorem lg_sl_cv (b : Nat) (ad : Nat → Nat) (avs : List AV) : lg_sl (avs.map (cv b ad)) = avs.map (fun v => Slot.val (cv b ad v)) := by
  induction avs with
  | nil => rfl
  | cons v t ih =>
    have e : lg_sl ((v :: t).map (cv b ad)) = Slot.val (cv b ad v) :: lg_sl (t.map (cv b ad)) := by
      simp [lg_sl, cv_cat]
    rw [e, ih]
    rfl
theorem lv_args_cv (b : Nat) (ad : Nat → Nat) : ∀ (avs : List AV) (n i : Nat) (v : AV), avs[i]? = some v → (n + i, cv b ad v) ∈ lv_args n (avs.map (cv b ad))
  | [], n, i, v, h => by simp at h
  | w :: t, n, i, v, h => by
    have e : lv_args n ((w :: t).map (cv b ad)) = (n, cv b ad w) :: lv_args (n + 1) (t.map (cv b ad)) := by
      simp [lv_args, cv_cat]
    rw [e]
    cases i with
    | zero =>
      have h2 : w = v := by simpa using h
      rw [h2]
      exact List.mem_cons_self
    | succ i =>
      rw [show n + (i + 1) = (n + 1) + i by omega]
      exact List.mem_cons_of_mem _ (lv_args_cv b ad t (n + 1) i v (by simpa using h))
theorem EvM.of {q : MI} {avs : List AV} {h : List AC} {Φ : Option AV → List AC → Prop} (hy : plainName (my q).cls = true) (hn : avs.length ≤ ml q)
    (k : Ev q none Φ 0 (avs.map some ++ List.replicate (ml q - avs.length) none) [] h 0 0) : EvM q avs h Φ := by
  intro l D b ad ws tys sz hM
  refine Met.ofW (cc := mb q) (maxL := ml q) (ret := mr q) hy rfl ?_
  intro p e s m args below meth c s₁ B hml hv
  obtain ⟨rfl, hsz, hP, hK, hD0, hNN⟩ := hv
  subst hsz
  have hts := atoms_spec (ws := Ww q) B.pre
  have hl0 := lv_entry (avs.map (cv b ad)) (n := ml q) (by rw [lg_sl_cv]; simpa using hn)
  rw [lg_entry_eq]
  generalize (lg_sl (avs.map (cv b ad)) ++ List.replicate (ml q - (lg_sl (avs.map (cv b ad))).length) Slot.unset).toArray = ls at hl0 ⊢
  refine k p l e s m _ below meth c _ D b (va_A ws s.heap.size) h.length ad ⟨⟨B.exec, B.bytes, hml, findClass_of_methodNamed B.named, fun w hw => hts w (List.mem_cons_of_mem _ hw)⟩, ⟨fun hh => (name_of_methodNamed B.named B.method).1.trans hh, hNN⟩, fun a ha => Or.inr ha, (fun L xs hX => by cases hX), ?_⟩ ad ws tys s.heap [] ls ?_ ?_
  · intro r h' ad' ws' tys' H' locs' pc' ls' cu su i hΦ hSt hcu hsu hd hrk hrn
    obtain ⟨hM', hP', hK', hD', hS', hag, hle⟩ := hSt
    refine W.widen hcu hsu ?_
    have hq : ∀ t : State, t.heap = H' → s.WarmedH t.vm → QM D b ad h.length Φ (va_A ws s.heap.size) (avs.map (cv b ad)).toArray s (.returned (r.map (cv b ad'))) t := fun t ht hW => ⟨⟨r, h', ad', ws', tys', rfl, hΦ, hag, hle, hM', by rw [ht]; exact hP', va_K.moved hW.alike hK', hD'⟩, hS'.F ht⟩
    have hret := B.returns
    have hlk := B.notSynchronized
    rcases r with _ | (x | v)
    · obtain rfl : i = .return_ := hrk
      exact W.vret B.exec B.bytes (hret.trans hrn) hq hS'.2.2 hd hlk
    · obtain rfl : i = .ireturn := hrk
      obtain ⟨ty, h1, h2⟩ := hrn
      exact W.zret B.exec B.bytes (hret.trans h1) h2 hq hS'.2.2 hd hlk
    · obtain rfl : i = .areturn := hrk
      obtain ⟨rt, h1, h2⟩ := hrn
      refine W.aret B.exec B.bytes (hret.trans h1) h2 ?_ hq hS'.2.2 hd hlk
      rcases v with (_ | _) | i
      · exact Or.inl rfl
      · exact Or.inr ⟨_, rfl⟩
      · exact Or.inr ⟨_, rfl⟩
  · refine ⟨hl0.1, hl0.2.1, fun i v hi => ?_⟩
    have hlt : i < avs.length := by
      rcases Nat.lt_or_ge i avs.length with g | g
      · exact g
      · rw [List.getElem?_append_right (by simpa using g)] at hi
        have := List.mem_of_getElem? hi
        simp at this
    rw [List.getElem?_append_left (by simpa using hlt), List.getElem?_map] at hi
    have h2 : avs[i]? = some v := by
      cases hz : avs[i]? with
      | none => rw [hz] at hi; simp at hi
      | some z => rw [hz] at hi; simpa using hi
    exact hl0.2.2 (i, cv b ad v) (by simpa using lv_args_cv b ad avs 0 i v h2)
  · exact ⟨hM, hP, hK, hD0.self, va_S.rf, agr_refl ad, Nat.le_refl _⟩
section EvRows
variable {q : MI} {X : Option (Nat × (Nat → Int32))} {Φ : Option AV → List AC → Prop} {pc : Nat} {ρ : List (Option AV)} {st : List AV} {h : List AC} {cu su : Nat}

theorem Ev.iadd {x y : Int32} (hd : decode (mb q) pc = .ok (.iadd, 1)) (k : Ev q X Φ (pc + 1) ρ (vi (x + y) :: st) h cu su) : Ev q X Φ pc ρ (vi y :: vi x :: st) h cu su := fun p l e s m args below meth c Q D b A n0 ad0 C ad ws tys H locs ls L S => lv_iadd C.1.1 C.1.2.1 hd (k p l e s m args below meth c Q D b A n0 ad0 C ad ws tys H locs ls L S)
theorem Ev.isub {x y : Int32} (hd : decode (mb q) pc = .ok (.isub, 1)) (k : Ev q X Φ (pc + 1) ρ (vi (x - y) :: st) h cu su) : Ev q X Φ pc ρ (vi y :: vi x :: st) h cu su := fun p l e s m args below meth c Q D b A n0 ad0 C ad ws tys H locs ls L S => lv_isub C.1.1 C.1.2.1 hd (k p l e s m args below meth c Q D b A n0 ad0 C ad ws tys H locs ls L S)
theorem Ev.imul {x y : Int32} (hd : decode (mb q) pc = .ok (.imul, 1)) (k : Ev q X Φ (pc + 1) ρ (vi (x * y) :: st) h cu su) : Ev q X Φ pc ρ (vi y :: vi x :: st) h cu su := fun p l e s m args below meth c Q D b A n0 ad0 C ad ws tys H locs ls L S => lv_imul C.1.1 C.1.2.1 hd (k p l e s m args below meth c Q D b A n0 ad0 C ad ws tys H locs ls L S)
theorem Ev.iand {x y : Int32} (hd : decode (mb q) pc = .ok (.iand, 1)) (k : Ev q X Φ (pc + 1) ρ (vi (x &&& y) :: st) h cu su) : Ev q X Φ pc ρ (vi y :: vi x :: st) h cu su := fun p l e s m args below meth c Q D b A n0 ad0 C ad ws tys H locs ls L S => lv_iand C.1.1 C.1.2.1 hd (k p l e s m args below meth c Q D b A n0 ad0 C ad ws tys H locs ls L S)
theorem Ev.ior {x y : Int32} (hd : decode (mb q) pc = .ok (.ior, 1)) (k : Ev q X Φ (pc + 1) ρ (vi (x ||| y) :: st) h cu su) : Ev q X Φ pc ρ (vi y :: vi x :: st) h cu su := fun p l e s m args below meth c Q D b A n0 ad0 C ad ws tys H locs ls L S => lv_ior C.1.1 C.1.2.1 hd (k p l e s m args below meth c Q D b A n0 ad0 C ad ws tys H locs ls L S)
theorem Ev.ixor {x y : Int32} (hd : decode (mb q) pc = .ok (.ixor, 1)) (k : Ev q X Φ (pc + 1) ρ (vi (x ^^^ y) :: st) h cu su) : Ev q X Φ pc ρ (vi y :: vi x :: st) h cu su := fun p l e s m args below meth c Q D b A n0 ad0 C ad ws tys H locs ls L S => lv_ixor C.1.1 C.1.2.1 hd (k p l e s m args below meth c Q D b A n0 ad0 C ad ws tys H locs ls L S)
theorem Ev.ishl {x y : Int32} (hd : decode (mb q) pc = .ok (.ishl, 1)) (k : Ev q X Φ (pc + 1) ρ (vi (x <<< (y &&& 31)) :: st) h cu su) : Ev q X Φ pc ρ (vi y :: vi x :: st) h cu su := fun p l e s m args below meth c Q D b A n0 ad0 C ad ws tys H locs ls L S => lv_ishl C.1.1 C.1.2.1 hd (k p l e s m args below meth c Q D b A n0 ad0 C ad ws tys H locs ls L S)
theorem Ev.ishr {x y : Int32} (hd : decode (mb q) pc = .ok (.ishr, 1)) (k : Ev q X Φ (pc + 1) ρ (vi (x >>> (y &&& 31)) :: st) h cu su) : Ev q X Φ pc ρ (vi y :: vi x :: st) h cu su := fun p l e s m args below meth c Q D b A n0 ad0 C ad ws tys H locs ls L S => lv_ishr C.1.1 C.1.2.1 hd (k p l e s m args below meth c Q D b A n0 ad0 C ad ws tys H locs ls L S)
theorem Ev.idiv {x y : Int32} (hd : decode (mb q) pc = .ok (.idiv, 1)) (hne : ¬ y = 0) (k : Ev q X Φ (pc + 1) ρ (vi (x / y) :: st) h cu su) : Ev q X Φ pc ρ (vi y :: vi x :: st) h cu su := fun p l e s m args below meth c Q D b A n0 ad0 C ad ws tys H locs ls L S => lv_idiv C.1.1 C.1.2.1 hd hne (k p l e s m args below meth c Q D b A n0 ad0 C ad ws tys H locs ls L S)
theorem Ev.irem {x y : Int32} (hd : decode (mb q) pc = .ok (.irem, 1)) (hne : ¬ y = 0) (k : Ev q X Φ (pc + 1) ρ (vi (x - x / y * y) :: st) h cu su) : Ev q X Φ pc ρ (vi y :: vi x :: st) h cu su := fun p l e s m args below meth c Q D b A n0 ad0 C ad ws tys H locs ls L S => lv_irem C.1.1 C.1.2.1 hd hne (k p l e s m args below meth c Q D b A n0 ad0 C ad ws tys H locs ls L S)
theorem Ev.iushr {x y v : Int32} (hd : decode (mb q) pc = .ok (.iushr, 1)) (hv : (x.toUInt32 >>> (y.toUInt32 &&& Int32.toUInt32 31)).toInt32 = v) (k : Ev q X Φ (pc + 1) ρ (vi v :: st) h cu su) : Ev q X Φ pc ρ (vi y :: vi x :: st) h cu su := fun p l e s m args below meth c Q D b A n0 ad0 C ad ws tys H locs ls L S => lv_iushr C.1.1 C.1.2.1 hd hv (k p l e s m args below meth c Q D b A n0 ad0 C ad ws tys H locs ls L S)
theorem Ev.ineg {x : Int32} (hd : decode (mb q) pc = .ok (.ineg, 1)) (k : Ev q X Φ (pc + 1) ρ (vi (-x) :: st) h cu su) : Ev q X Φ pc ρ (vi x :: st) h cu su := fun p l e s m args below meth c Q D b A n0 ad0 C ad ws tys H locs ls L S => lv_ineg C.1.1 C.1.2.1 hd (k p l e s m args below meth c Q D b A n0 ad0 C ad ws tys H locs ls L S)
theorem Ev.iconst {n : Int} {v : Int32} (hd : decode (mb q) pc = .ok (.iconst n, 1)) (hv : Int32.ofInt n = v) (k : Ev q X Φ (pc + 1) ρ (vi v :: st) h cu su) : Ev q X Φ pc ρ (st) h cu su := fun p l e s m args below meth c Q D b A n0 ad0 C ad ws tys H locs ls L S => lv_iconst C.1.1 C.1.2.1 hd hv (k p l e s m args below meth c Q D b A n0 ad0 C ad ws tys H locs ls L S)
theorem Ev.bipush {n : Int} {v : Int32} (hd : decode (mb q) pc = .ok (.bipush n, 2)) (hv : (Int8.ofInt n).toInt32 = v) (k : Ev q X Φ (pc + 2) ρ (vi v :: st) h cu su) : Ev q X Φ pc ρ (st) h cu su := fun p l e s m args below meth c Q D b A n0 ad0 C ad ws tys H locs ls L S => lv_bipush C.1.1 C.1.2.1 hd hv (k p l e s m args below meth c Q D b A n0 ad0 C ad ws tys H locs ls L S)
theorem Ev.sipush {n : Int} {v : Int32} (hd : decode (mb q) pc = .ok (.sipush n, 3)) (hv : (Int16.ofInt n).toInt32 = v) (k : Ev q X Φ (pc + 3) ρ (vi v :: st) h cu su) : Ev q X Φ pc ρ (st) h cu su := fun p l e s m args below meth c Q D b A n0 ad0 C ad ws tys H locs ls L S => lv_sipush C.1.1 C.1.2.1 hd hv (k p l e s m args below meth c Q D b A n0 ad0 C ad ws tys H locs ls L S)
theorem Ev.ldc {n : Nat} {v : Int32} (hd : decode (mb q) pc = .ok (.ldc n, 2)) (hv : Cond.constant (my q).cls n v ∈ Wt) (k : Ev q X Φ (pc + 2) ρ (vi v :: st) h cu su) : Ev q X Φ pc ρ (st) h cu su := fun p l e s m args below meth c Q D b A n0 ad0 C ad ws tys H locs ls L S => lv_ldc C.1.1 C.1.2.1 C.1.2.2.2.1 (C.1.2.2.2.2 _ hv) hd (k p l e s m args below meth c Q D b A n0 ad0 C ad ws tys H locs ls L S)
theorem Ev.iload_n {k4 : Fin 4} {x : Int32} (hd : decode (mb q) pc = .ok (.iload_n k4, 1)) (hl : ρ[(k4 : Nat)]? = some (some (vi x))) (k : Ev q X Φ (pc + 1) ρ (vi x :: st) h cu su) : Ev q X Φ pc ρ (st) h cu su := fun p l e s m args below meth c Q D b A n0 ad0 C ad ws tys H locs ls L S => lv_iload_n C.1.1 C.1.2.1 hd rfl (L.2.2 _ _ hl) (k p l e s m args below meth c Q D b A n0 ad0 C ad ws tys H locs ls L S)
theorem Ev.iload {i : Nat} {x : Int32} (hd : decode (mb q) pc = .ok (.iload i, 2)) (hl : ρ[i]? = some (some (vi x))) (k : Ev q X Φ (pc + 2) ρ (vi x :: st) h cu su) : Ev q X Φ pc ρ (st) h cu su := fun p l e s m args below meth c Q D b A n0 ad0 C ad ws tys H locs ls L S => lv_iload C.1.1 C.1.2.1 hd (L.2.2 _ _ hl) (k p l e s m args below meth c Q D b A n0 ad0 C ad ws tys H locs ls L S)
theorem Ev.aload_n {k4 : Fin 4} {x : Nat} (hd : decode (mb q) pc = .ok (.aload_n k4, 1)) (hl : ρ[(k4 : Nat)]? = some (some (vr x))) (k : Ev q X Φ (pc + 1) ρ (vr x :: st) h cu su) : Ev q X Φ pc ρ (st) h cu su := fun p l e s m args below meth c Q D b A n0 ad0 C ad ws tys H locs ls L S => lv_aload_n C.1.1 C.1.2.1 hd rfl (L.2.2 _ _ hl) (k p l e s m args below meth c Q D b A n0 ad0 C ad ws tys H locs ls L S)
theorem Ev.aload {i : Nat} {x : Nat} (hd : decode (mb q) pc = .ok (.aload i, 2)) (hl : ρ[i]? = some (some (vr x))) (k : Ev q X Φ (pc + 2) ρ (vr x :: st) h cu su) : Ev q X Φ pc ρ (st) h cu su := fun p l e s m args below meth c Q D b A n0 ad0 C ad ws tys H locs ls L S => lv_aload C.1.1 C.1.2.1 hd (L.2.2 _ _ hl) (k p l e s m args below meth c Q D b A n0 ad0 C ad ws tys H locs ls L S)
theorem Ev.aloadS_n {k4 : Fin 4} (hd : decode (mb q) pc = .ok (.aload_n k4, 1)) (hl : ρ[(k4 : Nat)]? = some (some vs)) (k : Ev q X Φ (pc + 1) ρ (vs :: st) h cu su) : Ev q X Φ pc ρ (st) h cu su := fun p l e s m args below meth c Q D b A n0 ad0 C ad ws tys H locs ls L S => lv_aload_n C.1.1 C.1.2.1 hd rfl (L.2.2 _ _ hl) (k p l e s m args below meth c Q D b A n0 ad0 C ad ws tys H locs ls L S)
theorem Ev.istore_n {k4 : Fin 4} {x : Int32} {ρ' : List (Option AV)} (hd : decode (mb q) pc = .ok (.istore_n k4, 1)) (hl : (k4 : Nat) < ml q) (hρ : ρ.set (k4 : Nat) (some (vi x)) = ρ') (k : Ev q X Φ (pc + 1) ρ' st h cu su) : Ev q X Φ pc ρ (vi x :: st) h cu su := by
  intro p l e s m args below meth c Q D b A n0 ad0 C ad ws tys H locs ls L S
  refine lv_istore_n C.1.1 C.1.2.1 hd rfl (lm_has L) hl rfl (fun ls' hl' => ?_)
  exact k p l e s m args below meth c Q D b A n0 ad0 C ad ws tys H locs ls' (lm_of_has hρ hl') S
theorem Ev.istore {i : Nat} {x : Int32} {ρ' : List (Option AV)} (hd : decode (mb q) pc = .ok (.istore i, 2)) (hl : i < ml q) (hρ : ρ.set i (some (vi x)) = ρ') (k : Ev q X Φ (pc + 2) ρ' st h cu su) : Ev q X Φ pc ρ (vi x :: st) h cu su := by
  intro p l e s m args below meth c Q D b A n0 ad0 C ad ws tys H locs ls L S
  refine lv_istore C.1.1 C.1.2.1 hd (lm_has L) hl rfl (fun ls' hl' => ?_)
  exact k p l e s m args below meth c Q D b A n0 ad0 C ad ws tys H locs ls' (lm_of_has hρ hl') S
theorem Ev.astore_n {k4 : Fin 4} {x : Nat} {ρ' : List (Option AV)} (hd : decode (mb q) pc = .ok (.astore_n k4, 1)) (hl : (k4 : Nat) < ml q) (hρ : ρ.set (k4 : Nat) (some (vr x)) = ρ') (k : Ev q X Φ (pc + 1) ρ' st h cu su) : Ev q X Φ pc ρ (vr x :: st) h cu su := by
  intro p l e s m args below meth c Q D b A n0 ad0 C ad ws tys H locs ls L S
  refine lv_astore_n C.1.1 C.1.2.1 hd rfl (lm_has L) hl rfl (fun ls' hl' => ?_)
  exact k p l e s m args below meth c Q D b A n0 ad0 C ad ws tys H locs ls' (lm_of_has hρ hl') S
theorem Ev.astore {i : Nat} {x : Nat} {ρ' : List (Option AV)} (hd : decode (mb q) pc = .ok (.astore i, 2)) (hl : i < ml q) (hρ : ρ.set i (some (vr x)) = ρ') (k : Ev q X Φ (pc + 2) ρ' st h cu su) : Ev q X Φ pc ρ (vr x :: st) h cu su := by
  intro p l e s m args below meth c Q D b A n0 ad0 C ad ws tys H locs ls L S
  refine lv_astore C.1.1 C.1.2.1 hd (lm_has L) hl rfl (fun ls' hl' => ?_)
  exact k p l e s m args below meth c Q D b A n0 ad0 C ad ws tys H locs ls' (lm_of_has hρ hl') S
theorem Ev.iinc {i : Nat} {n : Int} {x v : Int32} {ρ' : List (Option AV)} (hd : decode (mb q) pc = .ok (.iinc i n, 3)) (hx : ρ[i]? = some (some (vi x))) (hl : i < ml q) (hv : x + Int32.ofInt n = v) (hρ : ρ.set i (some (vi v)) = ρ') (k : Ev q X Φ (pc + 3) ρ' st h cu su) : Ev q X Φ pc ρ st h cu su := by
  intro p l e s m args below meth c Q D b A n0 ad0 C ad ws tys H locs ls L S
  have hmem : ((i, Value.int x) : Nat × Value) ∈ lvl b ad 0 ρ := (lvl_mem b ad ρ 0 _).mpr ⟨i, vi x, hx, by simp [cv]⟩
  obtain ⟨kk, hkk⟩ := List.getElem?_of_mem hmem
  refine lv_iinc C.1.1 C.1.2.1 hd (lm_has L) hkk hv hl rfl (fun ls' hl' => ?_)
  exact k p l e s m args below meth c Q D b A n0 ad0 C ad ws tys H locs ls' (lm_of_has hρ hl') S
theorem Ev.dup {v : AV} (hd : decode (mb q) pc = .ok (.dup, 1)) (k : Ev q X Φ (pc + 1) ρ (v :: v :: st) h cu su) : Ev q X Φ pc ρ (v :: st) h cu su := fun p l e s m args below meth c Q D b A n0 ad0 C ad ws tys H locs ls L S => lv_dup C.1.1 C.1.2.1 hd (cv_cat b ad v) (k p l e s m args below meth c Q D b A n0 ad0 C ad ws tys H locs ls L S)
theorem Ev.pop {v : AV} (hd : decode (mb q) pc = .ok (.pop, 1)) (k : Ev q X Φ (pc + 1) ρ (st) h cu su) : Ev q X Φ pc ρ (v :: st) h cu su := fun p l e s m args below meth c Q D b A n0 ad0 C ad ws tys H locs ls L S => lv_pop C.1.1 C.1.2.1 hd (cv_cat b ad v) (k p l e s m args below meth c Q D b A n0 ad0 C ad ws tys H locs ls L S)
theorem Ev.dup_x1 {v w : AV} (hd : decode (mb q) pc = .ok (.dup_x1, 1)) (k : Ev q X Φ (pc + 1) ρ (v :: w :: v :: st) h cu su) : Ev q X Φ pc ρ (v :: w :: st) h cu su := fun p l e s m args below meth c Q D b A n0 ad0 C ad ws tys H locs ls L S => lv_dup_x1 C.1.1 C.1.2.1 hd (cv_cat b ad v) (cv_cat b ad w) (k p l e s m args below meth c Q D b A n0 ad0 C ad ws tys H locs ls L S)
theorem Ev.dup_x2 {v w u : AV} (hd : decode (mb q) pc = .ok (.dup_x2, 1)) (k : Ev q X Φ (pc + 1) ρ (v :: w :: u :: v :: st) h cu su) : Ev q X Φ pc ρ (v :: w :: u :: st) h cu su := fun p l e s m args below meth c Q D b A n0 ad0 C ad ws tys H locs ls L S => lv_dup_x2 C.1.1 C.1.2.1 hd (cv_cat b ad v) (cv_cat b ad w) (cv_cat b ad u) (k p l e s m args below meth c Q D b A n0 ad0 C ad ws tys H locs ls L S)
theorem Ev.dup2 {v w : AV} (hd : decode (mb q) pc = .ok (.dup2, 1)) (k : Ev q X Φ (pc + 1) ρ (v :: w :: v :: w :: st) h cu su) : Ev q X Φ pc ρ (v :: w :: st) h cu su := fun p l e s m args below meth c Q D b A n0 ad0 C ad ws tys H locs ls L S => lv_dup2_11 C.1.1 C.1.2.1 hd (cv_cat b ad v) (cv_cat b ad w) (k p l e s m args below meth c Q D b A n0 ad0 C ad ws tys H locs ls L S)
theorem Ev.null (hd : decode (mb q) pc = .ok (.aconst_null, 1)) (k : Ev q X Φ (pc + 1) ρ (vn :: st) h cu su) : Ev q X Φ pc ρ (st) h cu su := fun p l e s m args below meth c Q D b A n0 ad0 C ad ws tys H locs ls L S => lv_null C.1.1 C.1.2.1 hd (k p l e s m args below meth c Q D b A n0 ad0 C ad ws tys H locs ls L S)
theorem Ev.if_eq {x : Int32} {off : Int} {tgt : Nat} (hd : decode (mb q) pc = .ok (.ifCond .eq off, 3)) (ht : (pc : Int) + off = (tgt : Int)) (kt : x = 0 → Ev q X Φ tgt ρ st h cu su) (kf : ¬ x = 0 → Ev q X Φ (pc + 3) ρ st h cu su) : Ev q X Φ pc ρ (vi x :: st) h cu su := fun p l e s m args below meth c Q D b A n0 ad0 C ad ws tys H locs ls L S => lv_if_eq C.1.1 C.1.2.1 hd ht (fun g => kt g p l e s m args below meth c Q D b A n0 ad0 C ad ws tys H locs ls L S) (fun g => kf g p l e s m args below meth c Q D b A n0 ad0 C ad ws tys H locs ls L S)
theorem Ev.if_ne {x : Int32} {off : Int} {tgt : Nat} (hd : decode (mb q) pc = .ok (.ifCond .ne off, 3)) (ht : (pc : Int) + off = (tgt : Int)) (kt : ¬ x = 0 → Ev q X Φ tgt ρ st h cu su) (kf : x = 0 → Ev q X Φ (pc + 3) ρ st h cu su) : Ev q X Φ pc ρ (vi x :: st) h cu su := fun p l e s m args below meth c Q D b A n0 ad0 C ad ws tys H locs ls L S => lv_if_ne C.1.1 C.1.2.1 hd ht (fun g => kt g p l e s m args below meth c Q D b A n0 ad0 C ad ws tys H locs ls L S) (fun g => kf g p l e s m args below meth c Q D b A n0 ad0 C ad ws tys H locs ls L S)
theorem Ev.if_lt {x : Int32} {off : Int} {tgt : Nat} (hd : decode (mb q) pc = .ok (.ifCond .lt off, 3)) (ht : (pc : Int) + off = (tgt : Int)) (kt : x < 0 → Ev q X Φ tgt ρ st h cu su) (kf : ¬ x < 0 → Ev q X Φ (pc + 3) ρ st h cu su) : Ev q X Φ pc ρ (vi x :: st) h cu su := fun p l e s m args below meth c Q D b A n0 ad0 C ad ws tys H locs ls L S => lv_if_lt C.1.1 C.1.2.1 hd ht (fun g => kt g p l e s m args below meth c Q D b A n0 ad0 C ad ws tys H locs ls L S) (fun g => kf g p l e s m args below meth c Q D b A n0 ad0 C ad ws tys H locs ls L S)
theorem Ev.if_ge {x : Int32} {off : Int} {tgt : Nat} (hd : decode (mb q) pc = .ok (.ifCond .ge off, 3)) (ht : (pc : Int) + off = (tgt : Int)) (kt : 0 ≤ x → Ev q X Φ tgt ρ st h cu su) (kf : ¬ 0 ≤ x → Ev q X Φ (pc + 3) ρ st h cu su) : Ev q X Φ pc ρ (vi x :: st) h cu su := fun p l e s m args below meth c Q D b A n0 ad0 C ad ws tys H locs ls L S => lv_if_ge C.1.1 C.1.2.1 hd ht (fun g => kt g p l e s m args below meth c Q D b A n0 ad0 C ad ws tys H locs ls L S) (fun g => kf g p l e s m args below meth c Q D b A n0 ad0 C ad ws tys H locs ls L S)
theorem Ev.if_gt {x : Int32} {off : Int} {tgt : Nat} (hd : decode (mb q) pc = .ok (.ifCond .gt off, 3)) (ht : (pc : Int) + off = (tgt : Int)) (kt : 0 < x → Ev q X Φ tgt ρ st h cu su) (kf : ¬ 0 < x → Ev q X Φ (pc + 3) ρ st h cu su) : Ev q X Φ pc ρ (vi x :: st) h cu su := fun p l e s m args below meth c Q D b A n0 ad0 C ad ws tys H locs ls L S => lv_if_gt C.1.1 C.1.2.1 hd ht (fun g => kt g p l e s m args below meth c Q D b A n0 ad0 C ad ws tys H locs ls L S) (fun g => kf g p l e s m args below meth c Q D b A n0 ad0 C ad ws tys H locs ls L S)
theorem Ev.if_le {x : Int32} {off : Int} {tgt : Nat} (hd : decode (mb q) pc = .ok (.ifCond .le off, 3)) (ht : (pc : Int) + off = (tgt : Int)) (kt : x ≤ 0 → Ev q X Φ tgt ρ st h cu su) (kf : ¬ x ≤ 0 → Ev q X Φ (pc + 3) ρ st h cu su) : Ev q X Φ pc ρ (vi x :: st) h cu su := fun p l e s m args below meth c Q D b A n0 ad0 C ad ws tys H locs ls L S => lv_if_le C.1.1 C.1.2.1 hd ht (fun g => kt g p l e s m args below meth c Q D b A n0 ad0 C ad ws tys H locs ls L S) (fun g => kf g p l e s m args below meth c Q D b A n0 ad0 C ad ws tys H locs ls L S)
theorem Ev.icmp_eq {x y : Int32} {off : Int} {tgt : Nat} (hd : decode (mb q) pc = .ok (.if_icmp .eq off, 3)) (ht : (pc : Int) + off = (tgt : Int)) (kt : x = y → Ev q X Φ tgt ρ st h cu su) (kf : ¬ x = y → Ev q X Φ (pc + 3) ρ st h cu su) : Ev q X Φ pc ρ (vi y :: vi x :: st) h cu su := fun p l e s m args below meth c Q D b A n0 ad0 C ad ws tys H locs ls L S => lv_icmp_eq C.1.1 C.1.2.1 hd ht (fun g => kt g p l e s m args below meth c Q D b A n0 ad0 C ad ws tys H locs ls L S) (fun g => kf g p l e s m args below meth c Q D b A n0 ad0 C ad ws tys H locs ls L S)
theorem Ev.icmp_ne {x y : Int32} {off : Int} {tgt : Nat} (hd : decode (mb q) pc = .ok (.if_icmp .ne off, 3)) (ht : (pc : Int) + off = (tgt : Int)) (kt : ¬ x = y → Ev q X Φ tgt ρ st h cu su) (kf : x = y → Ev q X Φ (pc + 3) ρ st h cu su) : Ev q X Φ pc ρ (vi y :: vi x :: st) h cu su := fun p l e s m args below meth c Q D b A n0 ad0 C ad ws tys H locs ls L S => lv_icmp_ne C.1.1 C.1.2.1 hd ht (fun g => kt g p l e s m args below meth c Q D b A n0 ad0 C ad ws tys H locs ls L S) (fun g => kf g p l e s m args below meth c Q D b A n0 ad0 C ad ws tys H locs ls L S)
theorem Ev.icmp_lt {x y : Int32} {off : Int} {tgt : Nat} (hd : decode (mb q) pc = .ok (.if_icmp .lt off, 3)) (ht : (pc : Int) + off = (tgt : Int)) (kt : x < y → Ev q X Φ tgt ρ st h cu su) (kf : ¬ x < y → Ev q X Φ (pc + 3) ρ st h cu su) : Ev q X Φ pc ρ (vi y :: vi x :: st) h cu su := fun p l e s m args below meth c Q D b A n0 ad0 C ad ws tys H locs ls L S => lv_icmp_lt C.1.1 C.1.2.1 hd ht (fun g => kt g p l e s m args below meth c Q D b A n0 ad0 C ad ws tys H locs ls L S) (fun g => kf g p l e s m args below meth c Q D b A n0 ad0 C ad ws tys H locs ls L S)
theorem Ev.icmp_ge {x y : Int32} {off : Int} {tgt : Nat} (hd : decode (mb q) pc = .ok (.if_icmp .ge off, 3)) (ht : (pc : Int) + off = (tgt : Int)) (kt : y ≤ x → Ev q X Φ tgt ρ st h cu su) (kf : ¬ y ≤ x → Ev q X Φ (pc + 3) ρ st h cu su) : Ev q X Φ pc ρ (vi y :: vi x :: st) h cu su := fun p l e s m args below meth c Q D b A n0 ad0 C ad ws tys H locs ls L S => lv_icmp_ge C.1.1 C.1.2.1 hd ht (fun g => kt g p l e s m args below meth c Q D b A n0 ad0 C ad ws tys H locs ls L S) (fun g => kf g p l e s m args below meth c Q D b A n0 ad0 C ad ws tys H locs ls L S)
theorem Ev.icmp_gt {x y : Int32} {off : Int} {tgt : Nat} (hd : decode (mb q) pc = .ok (.if_icmp .gt off, 3)) (ht : (pc : Int) + off = (tgt : Int)) (kt : y < x → Ev q X Φ tgt ρ st h cu su) (kf : ¬ y < x → Ev q X Φ (pc + 3) ρ st h cu su) : Ev q X Φ pc ρ (vi y :: vi x :: st) h cu su := fun p l e s m args below meth c Q D b A n0 ad0 C ad ws tys H locs ls L S => lv_icmp_gt C.1.1 C.1.2.1 hd ht (fun g => kt g p l e s m args below meth c Q D b A n0 ad0 C ad ws tys H locs ls L S) (fun g => kf g p l e s m args below meth c Q D b A n0 ad0 C ad ws tys H locs ls L S)
theorem Ev.icmp_le {x y : Int32} {off : Int} {tgt : Nat} (hd : decode (mb q) pc = .ok (.if_icmp .le off, 3)) (ht : (pc : Int) + off = (tgt : Int)) (kt : x ≤ y → Ev q X Φ tgt ρ st h cu su) (kf : ¬ x ≤ y → Ev q X Φ (pc + 3) ρ st h cu su) : Ev q X Φ pc ρ (vi y :: vi x :: st) h cu su := fun p l e s m args below meth c Q D b A n0 ad0 C ad ws tys H locs ls L S => lv_icmp_le C.1.1 C.1.2.1 hd ht (fun g => kt g p l e s m args below meth c Q D b A n0 ad0 C ad ws tys H locs ls L S) (fun g => kf g p l e s m args below meth c Q D b A n0 ad0 C ad ws tys H locs ls L S)
theorem Ev.goto {off : Int} {tgt : Nat} (hd : decode (mb q) pc = .ok (.goto off, 3)) (ht : (pc : Int) + off = (tgt : Int)) (k : Ev q X Φ tgt ρ st h cu su) : Ev q X Φ pc ρ st h cu su := fun p l e s m args below meth c Q D b A n0 ad0 C ad ws tys H locs ls L S => lv_goto C.1.1 C.1.2.1 hd ht (k p l e s m args below meth c Q D b A n0 ad0 C ad ws tys H locs ls L S)
theorem Ev.tableOut {dflt lo hi : Int} {offs : Array Int} {len : Nat} {x : Int32} {tgt : Nat} (hd : decode (mb q) pc = .ok (.tableswitch dflt lo hi offs, len)) (hx : x.toInt < lo ∨ hi < x.toInt) (ht : (pc : Int) + dflt = (tgt : Int)) (k : Ev q X Φ tgt ρ st h cu su) : Ev q X Φ pc ρ (vi x :: st) h cu su := fun p l e s m args below meth c Q D b A n0 ad0 C ad ws tys H locs ls L S => lv_tableOut C.1.1 C.1.2.1 hd hx ht (k p l e s m args below meth c Q D b A n0 ad0 C ad ws tys H locs ls L S)
theorem Ev.tableIn {dflt lo hi : Int} {offs : Array Int} {len : Nat} {x : Int32} {off : Int} {tgt : Nat} (hd : decode (mb q) pc = .ok (.tableswitch dflt lo hi offs, len)) (h1 : ¬ x.toInt < lo) (h2 : ¬ hi < x.toInt) (ho : offs[(x.toInt - lo).toNat]? = some off) (ht : (pc : Int) + off = (tgt : Int)) (k : Ev q X Φ tgt ρ st h cu su) : Ev q X Φ pc ρ (vi x :: st) h cu su := fun p l e s m args below meth c Q D b A n0 ad0 C ad ws tys H locs ls L S => lv_tableIn C.1.1 C.1.2.1 hd h1 h2 ho ht (k p l e s m args below meth c Q D b A n0 ad0 C ad ws tys H locs ls L S)
theorem Ev.lookup {dflt : Int} {ps : Array (Int × Int)} {len : Nat} {x : Int32} {off : Int} {tgt : Nat} (hd : decode (mb q) pc = .ok (.lookupswitch dflt ps, len)) (hp : (ps.toList.zip (ps.toList.drop 1)).all (fun (a, next) => a.1 < next.1) = true) (ho : Op.lookupswitch.offset ps.toList dflt x.toInt = off) (ht : (pc : Int) + off = (tgt : Int)) (k : Ev q X Φ tgt ρ st h cu su) : Ev q X Φ pc ρ (vi x :: st) h cu su := fun p l e s m args below meth c Q D b A n0 ad0 C ad ws tys H locs ls L S => lv_lookup C.1.1 C.1.2.1 hd hp ho ht (k p l e s m args below meth c Q D b A n0 ad0 C ad ws tys H locs ls L S)
theorem Ev.topi {x : Int32} (k : ∀ y : Int32, y = x → Ev q X Φ pc ρ (vi y :: st) h cu su) : Ev q X Φ pc ρ (vi x :: st) h cu su := k x rfl
def lmask : List Bool → List (Option AV) → List (Option AV)
  | b :: bs, o :: r => (if b then o else none) :: lmask bs r
  | _, _ => []
theorem mask_get : ∀ (bs : List Bool) (r : List (Option AV)) (i : Nat) (v : AV), (lmask bs r)[i]? = some (some v) → r[i]? = some (some v)
  | [], r, i, v, hi => by simp [lmask] at hi
  | b :: bs, [], i, v, hi => by simp [lmask] at hi
  | b :: bs, o :: r, i, v, hi => by
    cases i with
    | zero =>
      cases b
      · simp [lmask] at hi
      · simpa [lmask] using hi
    | succ i =>
      have := mask_get bs r i v (by simpa [lmask] using hi)
      simpa using this
/-- fewer locals are known -/
theorem Ev.mask (bs : List Bool) {ρ' : List (Option AV)} (hρ : lmask bs ρ = ρ') (k : Ev q X Φ pc ρ' st h cu su) : Ev q X Φ pc ρ st h cu su := fun p l e s m args below meth c Q D b A n0 ad0 C ad ws tys H locs ls L S => k p l e s m args below meth c Q D b A n0 ad0 C ad ws tys H locs ls ⟨L.1, L.2.1, fun i v hi => L.2.2 i v (mask_get bs ρ i v (by rw [hρ]; exact hi))⟩ S
theorem Ev.widen {cu' su' : Nat} (h1 : cu ≤ cu') (h2 : su ≤ su') (k : Ev q X Φ pc ρ st h cu' su') : Ev q X Φ pc ρ st h cu su := fun p l e s m args below meth c Q D b A n0 ad0 C ad ws tys H locs ls L S => W.widen h1 h2 (k p l e s m args below meth c Q D b A n0 ad0 C ad ws tys H locs ls L S)
theorem Ev.post {Ψ : Option AV → List AC → Prop} (hΨ : ∀ r h', Ψ r h' → Φ r h') (k : Ev q X Ψ pc ρ st h cu su) : Ev q X Φ pc ρ st h cu su := fun p l e s m args below meth c Q D b A n0 ad0 C => k p l e s m args below meth c Q D b A n0 ad0 ⟨C.1, C.2.1, C.2.2.1, C.2.2.2.1, fun r h' ad' ws' tys' H' locs' pc' ls' cu su i hr => C.2.2.2.2 r h' ad' ws' tys' H' locs' pc' ls' cu su i (hΨ r h' hr)⟩
/-- the method's end -/
theorem Ev.ireturn {x : Int32} (hd : decode (mb q) pc = .ok (.ireturn, 1)) (hn : ∃ ty, mr q = some ty ∧ narrow ty (.int x) = .int x) (hc : cu ≤ (mR q).cells) (hs : su ≤ (mR q).slots) (k : Φ (some (vi x)) h) : Ev q X Φ pc ρ [vi x] h cu su := fun p l e s m args below meth c Q D b A n0 ad0 C ad ws tys H locs ls L S => C.2.2.2.2 (some (vi x)) h ad ws tys H locs pc ls cu su .ireturn k S hc hs hd rfl hn
theorem Ev.vreturn (hd : decode (mb q) pc = .ok (.return_, 1)) (hn : mr q = none) (hc : cu ≤ (mR q).cells) (hs : su ≤ (mR q).slots) (k : Φ none h) : Ev q X Φ pc ρ [] h cu su := fun p l e s m args below meth c Q D b A n0 ad0 C ad ws tys H locs ls L S => C.2.2.2.2 none h ad ws tys H locs pc ls cu su .return_ k S hc hs hd rfl hn
theorem Ev.areturn {i : Nat} (hd : decode (mb q) pc = .ok (.areturn, 1)) (hn : ∃ rt, mr q = some rt ∧ ((∃ n, rt = .object n) ∨ ∃ t, rt = .array t)) (hc : cu ≤ (mR q).cells) (hs : su ≤ (mR q).slots) (k : Φ (some (vr i)) h) : Ev q X Φ pc ρ [vr i] h cu su := fun p l e s m args below meth c Q D b A n0 ad0 C ad ws tys H locs ls L S => C.2.2.2.2 (some (vr i)) h ad ws tys H locs pc ls cu su .areturn k S hc hs hd rfl hn
end EvRows
