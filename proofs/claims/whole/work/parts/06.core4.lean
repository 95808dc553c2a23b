theorem evm_blind {av : List Value} {sz : Nat} {D : va_G} {ws : va_W} {tys : List (ClassId × FieldType)} : FrameBlind (va_Pc av (fun U => U.heap.size = sz ∧ va_P D vwCl ws U.heap ∧ va_K D vwCl tys U ∧ va_D (fun _ => True) ws ∧ NN U)) :=
  fun a U g mk ⟨q0, q1, qP, qK, qD, qN⟩ => ⟨q0, q1, qP, va_K.moved (u := U) (U := U.calling g mk a) (Vm.Alike.refl U.vm) qK, qD, NN.same (s := U) (U := U.calling g mk a) rfl qN⟩
def LM (own : String) (idx : Nat) (y : MethodName) : Prop := Cond.methodLink own idx y ∈ Wt ∨ ∃ host, Cond.methodLinkNest own idx y host ∈ Wn
def MK (j : MI) (n : Nat) : Prop := Cond.code (my j) (mb j) (ml j) (mr j) ∈ Wt ∧ Cond.initialized (my j).cls ∈ Wt ∧ (my j).cls ≠ "java/lang/invoke/MethodHandle" ∧ (my j).cls ≠ "java/lang/invoke/VarHandle" ∧ (parseMethodDescriptor (my j).desc).map (fun d => d.parameters.length) = some n
def MV (j : MI) : Prop := Cond.instanceMethod (my j) ∈ Wt ∧ Cond.selects (my j).cls (my j) (my j) ∈ Wt
def Rle (j q : MI) : Prop := (mR j).frames + 1 ≤ (mR q).frames ∧ 8 + (ml j + 11) + (mR j).locals ≤ (mR q).locals
section EvCall
variable {q : MI} {X : Option (Nat × (Nat → Int32))} {Φ : Option AV → List AC → Prop} {pc : Nat} {ρ : List (Option AV)} {st : List AV} {h : List AC} {cu su : Nat}
/-- behind a call -/
theorem ev_back {j : MI} {Φ' : Option AV → List AC → Prop} {p : Program} {l : Launch} {e : Env} {s : State} {m : MethodId} {args : Array Value} {below : List Frame} {meth : Method} {c : Code} {Q : State → Prop} {D : va_G} {b : Nat} {A : Nat → Prop} {n0 : Nat} {ad0 : Nat → Nat}
    (C : Cx q X Φ p l e s m args below meth c Q D b A n0 ad0) {ad : Nat → Nat} {ws : va_W} {tys : List (ClassId × FieldType)} {H : Heap} {locs : List Loc} {ls : Array Slot} (L : lm b ad (ml q) ρ ls) (S : St q D b A s n0 ad0 ad h ws tys H locs) {st0 : List Value} {a : Array Value}
    (hr : va_Run p l e (mR q) s m args below meth c H locs cu su (mR j).cells (mR j).slots (F0 m pc ls st0) (st.map (cv b ad)) (QM D b ad h.length Φ' (va_A ws H.size) a) (va_A ws H.size))
    (hok : ∀ r h', Φ' r h' → h'.length = h.length ∨ (ρ.all (oko h.length h'.length) && st.all (okv h.length h'.length)) = true)
    (kk : ∀ r h', Φ' r h' → Ev q X Φ (pc + 3) ρ (r.toList ++ st) h' (cu + (mR j).cells) (su + (mR j).slots)) :
    W p l e (mR q) s m args below meth c H locs cu su Q (F0 m pc ls st0) := by
  obtain ⟨hM, hP, hK, hD, hS, hag, hle⟩ := S
  intro T hT Xs
  obtain ⟨v, st₀, t, T', L', h0, X', hL, e1, e2, ⟨⟨r, h', ad', ws', tys', hv, hΦ, hag1, hle1, hM', hP', hK', hD'⟩, hz, hkeep⟩, stp⟩ := hr T hT Xs
  have hv : v = r.map (cv b ad') := by injection hv
  subst hv
  rw [h0] at hz hkeep
  have hA : ∀ x : Nat, va_A ws H.size x → A x := fun x hx => by
    rcases hx with ⟨k, e, hx⟩ | hx
    · exact hD.2 k _ hx
    · exact C.2.2.1 x (Nat.le_trans hS.1 hx)
  have hS1 : va_S A s.heap T'.heap (locs ++ L') := by
    refine ⟨Nat.le_trans hS.1 (by rw [e1]; exact hz), fun x h1 h2 => ?_, fun x hx => ?_⟩
    · rw [e1, hkeep x (Nat.lt_of_lt_of_le h1 hS.1) (fun z => h2 (hA x z))]
      exact hS.2.1 x h1 h2
    · rcases List.mem_append.mp hx with hx | hx
      · exact hS.2.2 x hx
      · exact hA _ (hL x hx)
  have hLst : lm b ad' (ml q) ρ ls ∧ st.map (cv b ad') = st.map (cv b ad) := by
    rcases hok r h' hΦ with g | g
    · rw [g] at hag1
      rw [agr_eq hag1]
      exact ⟨L, rfl⟩
    · rw [Bool.and_eq_true] at g
      exact ⟨agr_lm hag1 g.1 L, agr_map hag1 g.2⟩
  have est : (r.map (cv b ad')).toList ++ st.map (cv b ad) = (r.toList ++ st).map (cv b ad') := by
    rw [List.map_append, hLst.2]
    cases r <;> rfl
  have hal : t.vm.Alike s.vm := by
    rw [← e2]
    exact X'.warmed.alike.symm
  obtain ⟨t2, a1, b1⟩ := kk r h' hΦ p l e s m args below meth c Q D b A n0 ad0 C ad' ws' tys' T'.heap (locs ++ L') ls hLst.1 ⟨hM', by rw [e1]; exact hP', va_K.moved hal hK', hD'.weaken (fun _ _ _ hx => hA _ hx), hS1, agr_trans hag hag1 hle hle1, Nat.le_trans hle hle1⟩ T' rfl X'
  refine ⟨t2, stp t2 ?_, b1⟩
  rw [est]
  exact a1
theorem Ev.callV {j : MI} {Φ' : Option AV → List AC → Prop} {idx i ci n : Nat} {T0 : u_T} {N0 : Nat} {As stk fs : List AV} (hj : EvM j (vr i :: As) h Φ') (hd : decode (mb q) pc = .ok (.invokevirtual idx, 3)) (hl : LM (my q).cls idx (my j)) (hm : MK j n) (hv : MV j) (hR : Rle j q) (ho : h[i]? = some (ao ci fs)) (hcl : vwCl[ci]? = some ((my j).cls, T0, N0))
    (hs : stk = As.reverse ++ vr i :: st) (hn : As.length = n) (hst : st.length ≤ 8) (hc : cu + (mR j).cells ≤ (mR q).cells ∧ su + (mR j).slots ≤ (mR q).slots)
    (hok : ∀ r h', Φ' r h' → h'.length = h.length ∨ (ρ.all (oko h.length h'.length) && st.all (okv h.length h'.length)) = true)
    (kk : ∀ r h', Φ' r h' → Ev q X Φ (pc + 3) ρ (r.toList ++ st) h' (cu + (mR j).cells) (su + (mR j).slots)) : Ev q X Φ pc ρ stk h cu su := by
  intro p l e s m args below meth c Q D b A n0 ad0 C ad ws tys H locs ls L S
  subst hs
  obtain ⟨hM, hP, hK, hD, hS, hag, hle⟩ := id S
  obtain ⟨hcode, hini, hx1, hx2, hpar⟩ := hm
  have hrec := va_recv hK hP hcl (hM.2 i _ ho)
  have hpre : PreV s H (my j).cls (ad i) (va_Pc ((vr i :: As).map (cv b ad)) (fun U => U.heap.size = H.size ∧ va_P D vwCl ws U.heap ∧ va_K D vwCl tys U ∧ va_D (fun _ => True) ws ∧ NN U)) (As.map (cv b ad)) :=
    ⟨evm_blind, hrec, fun U hU hW => ⟨rfl, by rw [hU], by rw [hU]; exact hP, va_K.moved hW.alike hK, hD.weaken (fun _ _ _ _ => trivial), NN.warm hW C.2.1.2⟩⟩
  have hstack : (F0 m pc ls ((As.reverse ++ vr i :: st).map (cv b ad))).stack = (As.map (cv b ad)).reverse ++ .ref (ad i) :: st.map (cv b ad) := by
    show (As.reverse ++ vr i :: st).map (cv b ad) = _
    rw [List.map_append, List.map_reverse]
    rfl
  have hroom : 2 * (F0 m pc ls ((As.reverse ++ vr i :: st).map (cv b ad))).monitorRoom + ((st.map (cv b ad)).map fun v => v.category).sum ≤ 8 := by
    rw [cat_sum]
    show 2 * 0 + _ ≤ 8
    omega
  have hlen : (As.map (cv b ad)).length = n := by rw [List.length_map]; exact hn
  refine ev_back (j := j) (a := (Value.ref (ad i) :: As.map (cv b ad)).toArray) C L S ?_ hok kk
  rcases hl with hl | ⟨host, hl⟩
  · exact va_runV ⟨C.1.1, C.1.2.1, C.1.2.2.1, C.1.2.2.2.1, C.1.2.2.2.2⟩ (hj l D b ad ws tys H.size hM)
      ⟨callB_of n C.1.2.2.2.2 (Ww_good hcode) rfl rfl rfl (C.1.2.2.2.2 _ hini) (C.1.2.2.2.2 _ hl) ⟨hx1, hx2, hpar⟩ hR, C.1.2.2.2.2 _ hv.1, C.1.2.2.2.2 _ hv.2⟩ hpre rfl hlen L.1 hstack hroom hd hc
  · exact va_runVN ⟨C.1.1, C.1.2.1, C.1.2.2.1, C.1.2.2.2.1, C.1.2.2.2.2⟩ (hj l D b ad ws tys H.size hM)
      ⟨va_cnB n C.1.2.2.2.2 (Ww_good hcode) rfl rfl rfl (C.2.1.2 _ hl) (C.1.2.2.2.2 _ hini) ⟨hx1, hx2, hpar⟩ hR, C.1.2.2.2.2 _ hv.1, C.1.2.2.2.2 _ hv.2⟩ hpre rfl hlen L.1 hstack hroom hd hc
theorem Ev.callS {j : MI} {Φ' : Option AV → List AC → Prop} {idx n : Nat} {As stk : List AV} (hj : EvM j As h Φ') (hd : decode (mb q) pc = .ok (.invokestatic idx, 3)) (hl : LM (my q).cls idx (my j)) (hm : MK j n) (hv : Cond.static (my j) ∈ Wt) (hR : Rle j q)
    (hs : stk = As.reverse ++ st) (hn : As.length = n) (hst : st.length ≤ 8) (hc : cu + (mR j).cells ≤ (mR q).cells ∧ su + (mR j).slots ≤ (mR q).slots)
    (hok : ∀ r h', Φ' r h' → h'.length = h.length ∨ (ρ.all (oko h.length h'.length) && st.all (okv h.length h'.length)) = true)
    (kk : ∀ r h', Φ' r h' → Ev q X Φ (pc + 3) ρ (r.toList ++ st) h' (cu + (mR j).cells) (su + (mR j).slots)) : Ev q X Φ pc ρ stk h cu su := by
  intro p l e s m args below meth c Q D b A n0 ad0 C ad ws tys H locs ls L S
  subst hs
  obtain ⟨hM, hP, hK, hD, hS, hag, hle⟩ := id S
  obtain ⟨hcode, hini, hx1, hx2, hpar⟩ := hm
  have hpre : PreS s H (va_Pc (As.map (cv b ad)) (fun U => U.heap.size = H.size ∧ va_P D vwCl ws U.heap ∧ va_K D vwCl tys U ∧ va_D (fun _ => True) ws ∧ NN U)) (As.map (cv b ad)) :=
    ⟨evm_blind, fun U hU hW => ⟨rfl, by rw [hU], by rw [hU]; exact hP, va_K.moved hW.alike hK, hD.weaken (fun _ _ _ _ => trivial), NN.warm hW C.2.1.2⟩⟩
  have hstack : (F0 m pc ls ((As.reverse ++ st).map (cv b ad))).stack = (As.map (cv b ad)).reverse ++ st.map (cv b ad) := by
    show (As.reverse ++ st).map (cv b ad) = _
    rw [List.map_append, List.map_reverse]
  have hroom : 2 * (F0 m pc ls ((As.reverse ++ st).map (cv b ad))).monitorRoom + ((st.map (cv b ad)).map fun v => v.category).sum ≤ 8 := by
    rw [cat_sum]
    show 2 * 0 + _ ≤ 8
    omega
  have hlen : (As.map (cv b ad)).length = n := by rw [List.length_map]; exact hn
  refine ev_back (j := j) (a := (As.map (cv b ad)).toArray) C L S ?_ hok kk
  rcases hl with hl | ⟨host, hl⟩
  · exact va_runS ⟨C.1.1, C.1.2.1, C.1.2.2.1, C.1.2.2.2.1, C.1.2.2.2.2⟩ (hj l D b ad ws tys H.size hM)
      ⟨callB_of n C.1.2.2.2.2 (Ww_good hcode) rfl rfl rfl (C.1.2.2.2.2 _ hini) (C.1.2.2.2.2 _ hl) ⟨hx1, hx2, hpar⟩ hR, C.1.2.2.2.2 _ hv⟩ hpre rfl hlen L.1 hstack hroom hd hc
  · exact va_runSN ⟨C.1.1, C.1.2.1, C.1.2.2.1, C.1.2.2.2.1, C.1.2.2.2.2⟩ (hj l D b ad ws tys H.size hM)
      ⟨va_cnB n C.1.2.2.2.2 (Ww_good hcode) rfl rfl rfl (C.2.1.2 _ hl) (C.1.2.2.2.2 _ hini) ⟨hx1, hx2, hpar⟩ hR, C.1.2.2.2.2 _ hv, trivial⟩ hpre rfl hlen L.1 hstack hroom hd hc
theorem Ev.callI {j : MI} {Φ' : Option AV → List AC → Prop} {idx i n : Nat} {As stk : List AV} (hj : EvM j (vr i :: As) h Φ') (hd : decode (mb q) pc = .ok (.invokespecial idx, 3)) (hl : LM (my q).cls idx (my j)) (hm : MK j n) (hy : (my j).name = "<init>") (hrt : mr j = none) (hv : Cond.instanceMethod (my j) ∈ Wt) (hR : Rle j q)
    (hs : stk = As.reverse ++ vr i :: st) (hn : As.length = n) (hst : st.length ≤ 8) (hc : cu + (mR j).cells ≤ (mR q).cells ∧ su + (mR j).slots ≤ (mR q).slots)
    (hok : ∀ r h', Φ' r h' → h'.length = h.length ∨ (ρ.all (oko h.length h'.length) && st.all (okv h.length h'.length)) = true)
    (kk : ∀ r h', Φ' r h' → Ev q X Φ (pc + 3) ρ (r.toList ++ st) h' (cu + (mR j).cells) (su + (mR j).slots)) : Ev q X Φ pc ρ stk h cu su := by
  intro p l e s m args below meth c Q D b A n0 ad0 C ad ws tys H locs ls L S
  subst hs
  obtain ⟨hM, hP, hK, hD, hS, hag, hle⟩ := id S
  obtain ⟨hcode, hini, hx1, hx2, hpar⟩ := hm
  rw [hrt] at hcode
  have hww : Ww j = Cond.code (my j) (mb j) (ml j) none :: Wt := by rw [Ww, hrt]
  have hgood : GoodIn Wt (Ww j) := by
    refine Ww_good ?_
    rw [hrt]
    exact hcode
  have hpre : PreS s H (va_Pc ((vr i :: As).map (cv b ad)) (fun U => U.heap.size = H.size ∧ va_P D vwCl ws U.heap ∧ va_K D vwCl tys U ∧ va_D (fun _ => True) ws ∧ NN U)) (.ref (ad i) :: As.map (cv b ad)) :=
    ⟨evm_blind, fun U hU hW => ⟨rfl, by rw [hU], by rw [hU]; exact hP, va_K.moved hW.alike hK, hD.weaken (fun _ _ _ _ => trivial), NN.warm hW C.2.1.2⟩⟩
  have hstack : (F0 m pc ls ((As.reverse ++ vr i :: st).map (cv b ad))).stack = (As.map (cv b ad)).reverse ++ .ref (ad i) :: st.map (cv b ad) := by
    show (As.reverse ++ vr i :: st).map (cv b ad) = _
    rw [List.map_append, List.map_reverse]
    rfl
  have hroom : 2 * (F0 m pc ls ((As.reverse ++ vr i :: st).map (cv b ad))).monitorRoom + ((st.map (cv b ad)).map fun v => v.category).sum ≤ 8 := by
    rw [cat_sum]
    show 2 * 0 + _ ≤ 8
    omega
  have hlen : (As.map (cv b ad)).length = n := by rw [List.length_map]; exact hn
  refine ev_back (j := j) (a := (Value.ref (ad i) :: As.map (cv b ad)).toArray) C L S ?_ hok kk
  rcases hl with hl | ⟨host, hl⟩
  · exact va_runI ⟨C.1.1, C.1.2.1, C.1.2.2.1, C.1.2.2.2.1, C.1.2.2.2.2⟩ (hj l D b ad ws tys H.size hM)
      ⟨callB_of n C.1.2.2.2.2 hgood hww rfl rfl (C.1.2.2.2.2 _ hini) (C.1.2.2.2.2 _ hl) ⟨hx1, hx2, hpar⟩ hR, hy, C.1.2.2.2.2 _ hv⟩ hpre rfl hlen L.1 hstack hroom hd hc
  · exact va_runIN ⟨C.1.1, C.1.2.1, C.1.2.2.1, C.1.2.2.2.1, C.1.2.2.2.2⟩ (hj l D b ad ws tys H.size hM)
      ⟨va_cnB n C.1.2.2.2.2 hgood hww rfl rfl (C.2.1.2 _ hl) (C.1.2.2.2.2 _ hini) ⟨hx1, hx2, hpar⟩ hR, hy, C.1.2.2.2.2 _ hv⟩ hpre rfl hlen L.1 hstack hroom hd hc
theorem Ev.acopy {idx i0 i1 n0 n1 : Nat} {f g : Nat → Int32} {sp dp n : Int32} {h' : List AC} (hd : decode (mb q) pc = .ok (.invokestatic idx, 3)) (hw1 : Cond.methodLink (my q).cls idx arraycopyName ∈ Wt) (hw2 : Cond.native arraycopyName ∈ Wt) (hw3 : Cond.static arraycopyName ∈ Wt) (hw4 : Cond.initialized "java/lang/System" ∈ Wt)
    (h0 : h[i0]? = some (ai .int n0 f)) (h1 : h[i1]? = some (ai .int n1 g)) (g1 : ¬ sp < 0) (g2 : ¬ dp < 0) (g3 : ¬ n < 0) (g4 : sp.toNatClampNeg + n.toNatClampNeg ≤ n0) (g5 : dp.toNatClampNeg + n.toNatClampNeg ≤ n1) (hfr : 1 ≤ (mR q).frames) (hlo : st.length + (nativeFrameWords "java/lang/System" "arraycopy" 5 + 11) ≤ (mR q).locals)
    (hh : h.set i1 (ai .int n1 (va_cpy f g sp.toNatClampNeg dp.toNatClampNeg n.toNatClampNeg)) = h') (kk : Ev q X Φ (pc + 3) ρ st h' cu su) : Ev q X Φ pc ρ (vi n :: vi dp :: vr i1 :: vi sp :: vr i0 :: st) h cu su := by
  intro p l e s m args below meth c Q D b A m0 ad0 C ad ws tys H locs ls L S
  obtain ⟨hM, hP, hK, hD, hS, hag, hle⟩ := S
  obtain ⟨c0, t0, a1, a2⟩ := hM.2 i0 _ h0
  obtain ⟨c1, t1, a3, a4⟩ := hM.2 i1 _ h1
  subst hh
  refine va_copyi C.1.1 C.1.2.1 (by rw [C.1.2.2.1]; exact L.1.symm) C.1.2.2.2.1 (C.1.2.2.2.2 _ hw1) (C.1.2.2.2.2 _ hw2) (C.1.2.2.2.2 _ hw3) (C.1.2.2.2.2 _ hw4) hK hP hD hS i0 i1 t0 t1 a1 a3 a2 a4 rfl g1 g2 g3 g4 g5 (fun _ _ => rfl) hfr (by rw [cat_sum]; exact hlo) hd (fun H1 locs1 hP1 hD1 hS1 => ?_)
  exact kk p l e s m args below meth c Q D b A m0 ad0 C ad _ tys H1 locs1 ls L ⟨hm_set hM h1 (fun ws' hw' => ⟨c1, t1, hw', a4⟩), hP1, hK, hD1, hS1, by simpa using hag, by simpa using hle⟩
end EvCall
section EvEq
variable {q : MI} {X : Option (Nat × (Nat → Int32))} {Φ : Option AV → List AC → Prop} {pc : Nat} {ρ : List (Option AV)} {st : List AV} {h : List AC} {cu su : Nat}
theorem Ev.pce {pc' : Nat} (e : pc = pc') (k : Ev q X Φ pc' ρ st h cu su) : Ev q X Φ pc ρ st h cu su := e ▸ k
theorem Ev.cs {cu' su' : Nat} (e1 : cu = cu') (e2 : su = su') (k : Ev q X Φ pc ρ st h cu' su') : Ev q X Φ pc ρ st h cu su := e1 ▸ e2 ▸ k
theorem Ev.hpe {h' : List AC} (e : h = h') (k : Ev q X Φ pc ρ st h' cu su) : Ev q X Φ pc ρ st h cu su := e ▸ k
theorem Ev.stk {st' : List AV} (e : st = st') (k : Ev q X Φ pc ρ st' h cu su) : Ev q X Φ pc ρ st h cu su := e ▸ k
theorem Ev.loc {ρ' : List (Option AV)} (e : ρ = ρ') (k : Ev q X Φ pc ρ' st h cu su) : Ev q X Φ pc ρ st h cu su := e ▸ k
end EvEq
