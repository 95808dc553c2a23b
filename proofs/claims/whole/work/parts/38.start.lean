def s00 : Sg := fun c => if c = 31 then (fun k => if k = 40 then -1 else 0) else fun _ => 0
theorem ev_law {L : Nat} {xs : Nat → Int32} (hf : ∃ s', f_Law_law L xs s00 = some (1, s')) : Ev q_Law_law (some (L, xs)) (fun r _ => r = some (vi 1)) 0 [some vs, none, none, none] [] [] 0 0 := by
  obtain ⟨s', hf⟩ := hf
  refine Ev.new (n := 0) (N := 11) (ci := 0) (dfl := [vn, vn, vn, vn, vn, vn, vn, vn, vn, vi 0, vi 0]) (h' := [ao 0 [vn, vn, vn, vn, vn, vn, vn, vn, vn, vi 0, vi 0]]) d_Law_law_0 nk_Law_7 (by decide) (by decide) rfl rfl rfl rfl ?_
  refine Ev.cs (cu' := 1) (su' := 11) rfl rfl ?_
  refine Ev.pce (pc' := 3) rfl ?_
  refine Ev.dup d_Law_law_3 ?_
  refine Ev.pce (pc' := 4) rfl ?_
  refine Ev.callI (j := q_FU_init) (st := [vr 0]) (As := []) (n := 0) (i := 0) ci_9 d_Law_law_4 lm_Law_9 mk_FU_init rfl rfl in_FU_init ⟨by decide, by decide⟩ rfl rfl (by decide) (by decide) (fun r h' hr => Or.inr ?_) (fun r h' hr => ?_)
  · rw [hr.2]; rfl
  rw [hr.1, hr.2]
  refine Ev.cs (cu' := 31) (su' := 1865) rfl rfl ?_
  refine Ev.stk (st' := [vr 0]) rfl ?_
  refine Ev.pce (pc' := 7) rfl ?_
  refine Ev.astore_n (ρ' := [some vs, some (vr 0), none, none]) d_Law_law_7 (by decide) rfl ?_
  refine Ev.pce (pc' := 8) rfl ?_
  refine Ev.new (n := 31) (N := 46) (ci := 8) (dfl := [vi 0, vi 0, vi 0, vi 0, vi 0, vi 0, vn, vn, vn, vn, vn, vn, vn, vn, vn, vn, vn, vn, vn, vn, vn, vn, vn, vn, vn, vi 0, vi 0, vi 0, vi 0, vi 0, vi 0, vn, vi 0, vi 0, vn, vn, vn, vn, vn, vn, vi 0, vn, vi 0, vn, vn, vi 0]) (h' := [ao 0 [vr 1, vr 3, vr 8, vr 16, vr 21, vr 23, vr 26, vr 29, vr 30, vi 0, vi 0], ao 1 [vi 0, vi 0, vi 0, vr 2], ai .boolean 10 (fun _ => 0), ao 2 [vi 0, vr 4, vr 5, vr 6, vr 7], ai .int 60 (fun _ => 0), ai .int 60 (fun _ => 0), ai .int 60 (fun _ => 0), ai .boolean 60 (fun _ => 0), ao 3 [vi 0, vr 9, vr 10, vr 11, vr 12, vr 13, vr 14, vr 15], ai .int 40 (fun _ => 0), ai .int 40 (fun _ => 0), ai .int 40 (fun _ => 0), ai .int 40 (fun _ => 0), ai .boolean 40 (fun _ => 0), ai .boolean 40 (fun _ => 0), ai .boolean 40 (fun _ => 0), ao 4 [vi 0, vr 17, vr 18, vr 19, vr 20], ai .int 60 (fun _ => 0), ai .int 60 (fun _ => 0), ai .int 60 (fun _ => 0), ai .int 60 (fun _ => 0), ao 5 [vr 1, vr 3, vr 8, vr 16, vi 0, vi 0, vi 0, vi 0, vi 0, vi 0, vi 0, vr 22], ai .int 40 (fun _ => 0), ao 6 [vr 21, vr 24, vr 25, vi 0], ai .int 220 (fun _ => 0), ai .int 220 (fun _ => 0), ao 6 [vr 21, vr 27, vr 28, vi 0], ai .int 220 (fun _ => 0), ai .int 220 (fun _ => 0), ao 7 [vr 21, vr 23], ai .int 120 (fun _ => 0), ao 8 [vi 0, vi 0, vi 0, vi 0, vi 0, vi 0, vn, vn, vn, vn, vn, vn, vn, vn, vn, vn, vn, vn, vn, vn, vn, vn, vn, vn, vn, vi 0, vi 0, vi 0, vi 0, vi 0, vi 0, vn, vi 0, vi 0, vn, vn, vn, vn, vn, vn, vi 0, vn, vi 0, vn, vn, vi 0]]) d_Law_law_8 nk_Law_10 (by decide) (by decide) rfl rfl rfl rfl ?_
  refine Ev.cs (cu' := 32) (su' := 1911) rfl rfl ?_
  refine Ev.pce (pc' := 11) rfl ?_
  refine Ev.dup d_Law_law_11 ?_
  refine Ev.pce (pc' := 12) rfl ?_
  refine Ev.callI (j := q_Mod_init) (st := [vr 31]) (As := []) (n := 0) (i := 31) ci_10 d_Law_law_12 lm_Law_12 mk_Mod_init rfl rfl in_Mod_init ⟨by decide, by decide⟩ rfl rfl (by decide) (by decide) (fun r h' hr => Or.inr ?_) (fun r h' hr => ?_)
  · rw [hr.2]; rfl
  rw [hr.1, hr.2]
  refine Ev.cs (cu' := 61) (su' := 4831) rfl rfl ?_
  refine Ev.stk (st' := [vr 31]) rfl ?_
  refine Ev.pce (pc' := 15) rfl ?_
  refine Ev.astore_n (ρ' := [some vs, some (vr 0), some (vr 31), none]) d_Law_law_15 (by decide) rfl ?_
  refine Ev.pce (pc' := 16) rfl ?_
  refine Ev.hpe (h' := HX s00 []) rfl ?_
  refine Ev.post (Ψ := PQ q_Law_law [] (1, s')) (fun r h' hr => ?_) (t_law ⟨by decide, by decide⟩ s00 (1, s') hf)
  exact hr.1
/-! THE CLAIM OUT OF ONE WALK OF THE LAW'S BODY. Your part is whole_start (and what it stands on); all else here is the same for every law, but numbers. -/
def R_law : String := "FeatureUnionsLaw"
def lw_P (b : Addr) (xs : List Int32) (args : Array Value) (s : State) : Prop := args = #[.ref b] ∧ s.IntsAt b xs ∧ xs.length ≤ 3584 ∧ (Jvm.Cond.and given_1 narrow_1).before args s = true
def lw_Q (_ : Array Value) (s : State) (o : Outcome) (t : State) : Prop := o = .returned (some (.int 1)) ∧ Framed s o t [] 61 4831
def lw_Z (below : List Frame) (a : Array Value) (s : State) : State → Prop := fun t => ∃ o, t.status = .running ∧ Ended t below o ∧ lw_Q a s o t
/-- the law's own end, with 1 on the stack, nothing written that was there before, its room as the claim has it -/
theorem lw_ret {p : Program} {l : Launch} {e : Env} {s : State} {m : MethodId} {below : List Frame} {meth : Method} {c : Code} {b : Nat} (hx : p.tables.exec = Jvm.exec) (hb : c.code = code) (hr : meth.sig.returnType = ret) (hlocks : meth.locks = false) {pc : Nat} {H : Heap} {ls : Array Slot} (hdg : decode code pc = .ok (.ireturn, 1)) : W p l e room_1 s m #[Value.ref b] below meth c H [] 61 4831 (lw_Z below #[Value.ref b] s) (F0 m pc ls [.int 1]) := by
  intro T hT X
  obtain ⟨fs, hret, hrun, hended, hW, hframe⟩ := X.leave (v := some (.int 1)) (hlocks := hlocks) (fun h => by rw [hr] at h; cases h)
  have hmeth' : T.vm.method? m = some meth := X.method'
  refine ⟨T.setFrames fs, ?_, .returned (some (.int 1)), hrun, hended, rfl, ⟨_, rfl⟩, hW, hframe⟩
  jvm_step X.here [X.here.top, hx, hb, hdg, hmeth', hr, ret, narrow_b1]
  (try refine ⟨rfl, ?_⟩); (try refine ⟨rfl, ?_⟩)
  first | (intro acts; rw [hret _ acts rfl rfl rfl]) | rw [hret _ _ rfl rfl rfl]
  exact Steps.refl _
/-- what holds at the law's entry: the machine, the code, the tables' words (any of lw_tbl by 'hts w (by decide +kernel)'), the script of L ints xs at the cell b, what the Statement gives of the start (any of its parts by flat_of_before) -/
def lw_At (p : Program) (s : State) (m : MethodId) (meth : Method) (c : Code) (b L : Nat) (xs : Nat → Int32) : Prop :=
  p.tables.exec = Jvm.exec ∧ c.code = code ∧ meth.sig.returnType = ret ∧ c.maxLocals = 4 ∧ s.vm.findClass R_law = some m.cls ∧ (∀ w ∈ lw_tbl, w.before #[Value.ref b] s = true) ∧ va_X b L xs s s.heap ∧ b < s.heap.size ∧ meth.locks = false ∧ (Jvm.Cond.and given_1 narrow_1).before #[Value.ref b] s = true
theorem is_FU : Cond.instantiable R_FU 11 ∈ Wt := wt1 12 rfl rfl
theorem is_Packs : Cond.instantiable R_Packs 4 ∈ Wt := wt1 20 rfl rfl
theorem is_Feats : Cond.instantiable R_Feats 5 ∈ Wt := wt1 47 rfl rfl
theorem is_Users : Cond.instantiable R_Users 8 ∈ Wt := wt1 78 rfl rfl
theorem is_Turns : Cond.instantiable R_Turns 5 ∈ Wt := wt1 122 rfl rfl
theorem is_Snap : Cond.instantiable R_Snap 12 ∈ Wt := wt1 154 rfl rfl
theorem is_Clo : Cond.instantiable R_Clo 4 ∈ Wt := wt1 213 rfl rfl
theorem is_Reas : Cond.instantiable R_Reas 2 ∈ Wt := wt1 232 rfl rfl
theorem is_Mod : Cond.instantiable R_Mod 46 ∈ Wt := wt3 44 rfl rfl
theorem whole_of {p : Program} {e : Env} {s : State} {m : MethodId} {below : List Frame} {meth : Method} {c : Code} (l : Launch) {b L : Nat} {xs : Nat → Int32} (hf : ∃ s', f_Law_law L xs s00 = some (1, s')) (C0 : lw_At p s m meth c b L xs) : W p l e room_1 s m #[Value.ref b] below meth c s.heap [] 0 0 (lw_Z below #[Value.ref b] s) (entryFrame m ([Value.ref b] : List Value).toArray 4) := by
  obtain ⟨hx, hb, hr, hml, hown, hts, hX, hbl, hlocks, hgv⟩ := id C0
  have htw : ∀ w ∈ Wt, w.before #[Value.ref b] s = true := fun w hw => hts w (Wt_in hw)
  obtain ⟨c0, i0, k0⟩ := u_known (C := R_FU) (T := F_FU) (N := 11) (n := 11) htw uw_FU (htw (.instantiable R_FU 11) is_FU)
  obtain ⟨c1, i1, k1⟩ := u_known (C := R_Packs) (T := F_Packs) (N := 4) (n := 4) htw uw_Packs (htw (.instantiable R_Packs 4) is_Packs)
  obtain ⟨c2, i2, k2⟩ := u_known (C := R_Feats) (T := F_Feats) (N := 5) (n := 5) htw uw_Feats (htw (.instantiable R_Feats 5) is_Feats)
  obtain ⟨c3, i3, k3⟩ := u_known (C := R_Users) (T := F_Users) (N := 8) (n := 8) htw uw_Users (htw (.instantiable R_Users 8) is_Users)
  obtain ⟨c4, i4, k4⟩ := u_known (C := R_Turns) (T := F_Turns) (N := 5) (n := 5) htw uw_Turns (htw (.instantiable R_Turns 5) is_Turns)
  obtain ⟨c5, i5, k5⟩ := u_known (C := R_Snap) (T := F_Snap) (N := 12) (n := 12) htw uw_Snap (htw (.instantiable R_Snap 12) is_Snap)
  obtain ⟨c6, i6, k6⟩ := u_known (C := R_Clo) (T := F_Clo) (N := 4) (n := 4) htw uw_Clo (htw (.instantiable R_Clo 4) is_Clo)
  obtain ⟨c7, i7, k7⟩ := u_known (C := R_Reas) (T := F_Reas) (N := 2) (n := 2) htw uw_Reas (htw (.instantiable R_Reas 2) is_Reas)
  obtain ⟨c8, i8, k8⟩ := u_known (C := R_Mod) (T := F_Mod) (N := 46) (n := 46) htw uw_Mod (htw (.instantiable R_Mod 46) is_Mod)
  obtain ⟨dC, dI, hKc⟩ : ∃ (dC : Nat → ClassId) (dI : Nat → Nat → Nat), ∀ (k : Nat) (q : vw_C), vwCl[k]? = some q → u_Kn s q.1 q.2.1 q.2.2 (dC k) (dI k) := by
    refine ⟨fun k => [c0, c1, c2, c3, c4, c5, c6, c7, c8].getD k c0, fun k => [i0, i1, i2, i3, i4, i5, i6, i7, i8].getD k i0, ?_⟩
    intro k q hq
    match k, hq with
    | 0, hq => cases hq; exact k0
    | 1, hq => cases hq; exact k1
    | 2, hq => cases hq; exact k2
    | 3, hq => cases hq; exact k3
    | 4, hq => cases hq; exact k4
    | 5, hq => cases hq; exact k5
    | 6, hq => cases hq; exact k6
    | 7, hq => cases hq; exact k7
    | 8, hq => cases hq; exact k8
    | k + 9, hq => simp [vwCl] at hq
  have hK : va_K (dC, dI) vwCl [] s := ⟨hKc, fun k q h => by simp at h⟩
  have hP : va_P (dC, dI) vwCl [] s.heap := fun k q h => by simp at h
  have hD : va_D (fun q : Nat => s.heap.size ≤ q) [] := ⟨fun i j p q h => by simp at h, fun k q h => by simp at h⟩
  have hNN : NN s := fun w hw => va_Nw.of (Wn_on hw) (hts w (List.mem_append_right _ (List.mem_filter.mp hw).1))
  have hl := lv_entry ([.ref b]) (n := 4) (Nat.le_of_ble_eq_true rfl)
  rw [lg_entry_eq]
  generalize (lg_sl ([.ref b]) ++ List.replicate (4 - (lg_sl ([.ref b])).length) Slot.unset).toArray = ls at hl ⊢
  have hl : lv_has ls 4 [(0, .ref b)] := hl
  refine ev_law hf p l e s m #[Value.ref b] below meth c _ (dC, dI) b (fun q => s.heap.size ≤ q) 0 id ⟨⟨hx, hb, hml, hown, htw⟩, ⟨fun h => absurd h (by decide), hNN⟩, fun a h => h, ?_, ?_⟩ id [] [] s.heap [] ls ?_ ?_
  · intro L' xs' h
    cases h
    exact ⟨hX, hbl, Nat.not_le.mpr hbl⟩
  · intro r h' ad' ws' tys' H' locs' pc' ls' cu su i hΦ hSt hcu hsu hd hrk hrn
    subst hΦ
    obtain rfl : i = .ireturn := hrk
    refine va_forget (fun q hq => hSt.2.2.2.2.1.2.2 q hq) ?_
    refine W.widen (k := 61) (n := 4831) hcu hsu ?_
    exact lw_ret hx hb hr hlocks hd
  · refine ⟨hl.1, hl.2.1, fun i v hi => ?_⟩
    match i, hi with
    | 0, hi => cases hi; exact hl.2.2 (0, .ref b) List.mem_cons_self
    | 1, hi => cases hi
    | 2, hi => cases hi
    | 3, hi => cases hi
    | n + 4, hi => cases hi
  · exact ⟨⟨rfl, fun i c h => by simp at h⟩, hP, hK, hD, va_S.rf, agr_refl _, Nat.le_refl _⟩
