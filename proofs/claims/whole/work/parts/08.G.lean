/-! a method's rest as a function: the state s holds int fields (by cell and place) and arrays (by cell and index) -/
abbrev Ro : Type := Option (Int32 × Sg)
def ix (x : Int32) : Nat := x.toNatClampNeg
def inb (x : Int32) (n : Nat) : Bool := !decide (x < 0) && decide (ix x < n)
theorem inb_in {x : Int32} {n : Nat} (h : inb x n = true) : vp_in x n := by
  simp only [inb, Bool.and_eq_true, Bool.not_eq_true', decide_eq_false_iff_not, decide_eq_true_eq] at h
  intro g
  rcases g with g | g
  · exact h.1 g
  · exact absurd h.2 (Nat.not_lt.mpr g)
def isb (x : Int32) : Bool := decide (x = 0) || decide (x = 1)
theorem isb_or {x : Int32} (h : isb x = true) : x = 0 ∨ x = 1 := by simpa [isb] using h
theorem isb_nar {x : Int32} (h : isb x = true) : vp_nar .boolean x = x := by
  rcases isb_or h with rfl | rfl <;> rfl
theorem isb_narrow {x : Int32} (h : isb x = true) : narrow .boolean (.int x) = .int x := by
  rcases isb_or h with rfl | rfl <;> rfl
def nz (x : Int32) : Int32 := if x = 0 then 0 else 1
def bnd (f : Ro) (k : Int32 → Sg → Ro) : Ro := match f with
  | none => none
  | some (v, s) => k v s
theorem bnd_some (v : Int32) (s : Sg) (k : Int32 → Sg → Ro) : bnd (some (v, s)) k = k v s := rfl

def PQ (q : MI) (R : List AC) (out : Int32 × Sg) : Option AV → List AC → Prop := fun r h' => r = (mr q).map (fun _ => vi out.1) ∧ h' = HX out.2 R
def Gd (q : MI) (X : Option (Nat × (Nat → Int32))) (pc : Nat) (ρ : List (Option AV)) (st : List AV) (s : Sg) (R : List AC) (cu su : Nat) (o : Ro) : Prop := ∀ out, o = some out → Ev q X (PQ q R out) pc ρ st (HX s R) cu su
/-- a method's contract: it computes f -/
def Ct (q : MI) (avs : List AV) (s : Sg) (R : List AC) (f : Ro) : Prop := ∀ out, f = some out → EvM q avs (HX s R) (PQ q R out)
theorem Ct.of {q : MI} {avs : List AV} {s : Sg} {R : List AC} {f : Ro} (hy : plainName (my q).cls = true) (hn : decide (avs.length ≤ ml q) = true) {ρ : List (Option AV)} (hρ : avs.map some ++ List.replicate (ml q - avs.length) none = ρ) (k : Gd q none 0 ρ [] s R 0 0 f) : Ct q avs s R f := fun out e => EvM.of hy (of_decide_eq_true hn) (by rw [hρ]; exact k out e)

def itr1 (F : (Int32 → Sg → Ro) → Int32 → Sg → Ro) : Nat → Int32 → Sg → Ro
  | 0, _, _ => none
  | n + 1, x1, s => F (itr1 F n) x1 s
def itr2 (F : (Int32 → Int32 → Sg → Ro) → Int32 → Int32 → Sg → Ro) : Nat → Int32 → Int32 → Sg → Ro
  | 0, _, _, _ => none
  | n + 1, x1, x2, s => F (itr2 F n) x1 x2 s
def itr3 (F : (Int32 → Int32 → Int32 → Sg → Ro) → Int32 → Int32 → Int32 → Sg → Ro) : Nat → Int32 → Int32 → Int32 → Sg → Ro
  | 0, _, _, _, _ => none
  | n + 1, x1, x2, x3, s => F (itr3 F n) x1 x2 x3 s
def itr4 (F : (Int32 → Int32 → Int32 → Int32 → Sg → Ro) → Int32 → Int32 → Int32 → Int32 → Sg → Ro) : Nat → Int32 → Int32 → Int32 → Int32 → Sg → Ro
  | 0, _, _, _, _, _ => none
  | n + 1, x1, x2, x3, x4, s => F (itr4 F n) x1 x2 x3 x4 s
def itr5 (F : (Int32 → Int32 → Int32 → Int32 → Int32 → Sg → Ro) → Int32 → Int32 → Int32 → Int32 → Int32 → Sg → Ro) : Nat → Int32 → Int32 → Int32 → Int32 → Int32 → Sg → Ro
  | 0, _, _, _, _, _, _ => none
  | n + 1, x1, x2, x3, x4, x5, s => F (itr5 F n) x1 x2 x3 x4 x5 s
def itr6 (F : (Int32 → Int32 → Int32 → Int32 → Int32 → Int32 → Sg → Ro) → Int32 → Int32 → Int32 → Int32 → Int32 → Int32 → Sg → Ro) : Nat → Int32 → Int32 → Int32 → Int32 → Int32 → Int32 → Sg → Ro
  | 0, _, _, _, _, _, _, _ => none
  | n + 1, x1, x2, x3, x4, x5, x6, s => F (itr6 F n) x1 x2 x3 x4 x5 x6 s
def itr7 (F : (Int32 → Int32 → Int32 → Int32 → Int32 → Int32 → Int32 → Sg → Ro) → Int32 → Int32 → Int32 → Int32 → Int32 → Int32 → Int32 → Sg → Ro) : Nat → Int32 → Int32 → Int32 → Int32 → Int32 → Int32 → Int32 → Sg → Ro
  | 0, _, _, _, _, _, _, _, _ => none
  | n + 1, x1, x2, x3, x4, x5, x6, x7, s => F (itr7 F n) x1 x2 x3 x4 x5 x6 x7 s
def itr8 (F : (Int32 → Int32 → Int32 → Int32 → Int32 → Int32 → Int32 → Int32 → Sg → Ro) → Int32 → Int32 → Int32 → Int32 → Int32 → Int32 → Int32 → Int32 → Sg → Ro) : Nat → Int32 → Int32 → Int32 → Int32 → Int32 → Int32 → Int32 → Int32 → Sg → Ro
  | 0, _, _, _, _, _, _, _, _, _ => none
  | n + 1, x1, x2, x3, x4, x5, x6, x7, x8, s => F (itr8 F n) x1 x2 x3 x4 x5 x6 x7 x8 s
section GR
variable {q : MI} {X : Option (Nat × (Nat → Int32))} {pc pc' : Nat} {ρ : List (Option AV)} {st : List AV} {s : Sg} {R : List AC} {cu su : Nat} {o o1 o2 : Ro}
theorem G.ite {c : Prop} [Decidable c] (k1 : c → Gd q X pc ρ st s R cu su o1) (k2 : ¬ c → Gd q X pc ρ st s R cu su o2) : Gd q X pc ρ st s R cu su (if c then o1 else o2) := fun out e => by
  by_cases g : c
  · rw [if_pos g] at e
    exact k1 g out e
  · rw [if_neg g] at e
    exact k2 g out e
theorem G.no : Gd q X pc ρ st s R cu su none := fun out e => by cases e
theorem G.grd {c : Prop} [Decidable c] (k1 : c → Gd q X pc ρ st s R cu su o) : Gd q X pc ρ st s R cu su (if c then o else none) := G.ite k1 (fun _ => G.no)
theorem G.eqo (e0 : o1 = o2) (k : Gd q X pc ρ st s R cu su o2) : Gd q X pc ρ st s R cu su o1 := e0 ▸ k
theorem G.eqv {v w : AV} (e0 : v = w) (k : Gd q X pc ρ (w :: st) s R cu su o) : Gd q X pc ρ (v :: st) s R cu su o := e0 ▸ k
theorem G.mask (bs : List Bool) {ρ' : List (Option AV)} (hρ : lmask bs ρ = ρ') (k : Gd q X pc ρ' st s R cu su o) : Gd q X pc ρ st s R cu su o := fun out e => Ev.mask bs hρ (k out e)
theorem G.widen {cu' su' : Nat} (h1 : cu ≤ cu') (h2 : su ≤ su') (k : Gd q X pc ρ st s R cu' su' o) : Gd q X pc ρ st s R cu su o := fun out e => Ev.widen h1 h2 (k out e)
theorem G.loop1 {F : (Int32 → Sg → Ro) → Int32 → Sg → Ro} {rf : Int32 → List (Option AV)} (hb : ∀ rec : Int32 → Sg → Ro, (∀ (x1 : Int32) (s : Sg), Gd q X pc (rf x1) st s R cu su (rec x1 s)) → ∀ (x1 : Int32) (s : Sg), Gd q X pc (rf x1) st s R cu su (F rec x1 s)) : ∀ (n : Nat) (x1 : Int32) (s : Sg), Gd q X pc (rf x1) st s R cu su (itr1 F n x1 s) := by
  intro n
  induction n with
  | zero => intro x1 s out e; cases e
  | succ n ih => exact hb _ ih
theorem G.loop2 {F : (Int32 → Int32 → Sg → Ro) → Int32 → Int32 → Sg → Ro} {rf : Int32 → Int32 → List (Option AV)} (hb : ∀ rec : Int32 → Int32 → Sg → Ro, (∀ (x1 x2 : Int32) (s : Sg), Gd q X pc (rf x1 x2) st s R cu su (rec x1 x2 s)) → ∀ (x1 x2 : Int32) (s : Sg), Gd q X pc (rf x1 x2) st s R cu su (F rec x1 x2 s)) : ∀ (n : Nat) (x1 x2 : Int32) (s : Sg), Gd q X pc (rf x1 x2) st s R cu su (itr2 F n x1 x2 s) := by
  intro n
  induction n with
  | zero => intro x1 x2 s out e; cases e
  | succ n ih => exact hb _ ih
theorem G.loop3 {F : (Int32 → Int32 → Int32 → Sg → Ro) → Int32 → Int32 → Int32 → Sg → Ro} {rf : Int32 → Int32 → Int32 → List (Option AV)} (hb : ∀ rec : Int32 → Int32 → Int32 → Sg → Ro, (∀ (x1 x2 x3 : Int32) (s : Sg), Gd q X pc (rf x1 x2 x3) st s R cu su (rec x1 x2 x3 s)) → ∀ (x1 x2 x3 : Int32) (s : Sg), Gd q X pc (rf x1 x2 x3) st s R cu su (F rec x1 x2 x3 s)) : ∀ (n : Nat) (x1 x2 x3 : Int32) (s : Sg), Gd q X pc (rf x1 x2 x3) st s R cu su (itr3 F n x1 x2 x3 s) := by
  intro n
  induction n with
  | zero => intro x1 x2 x3 s out e; cases e
  | succ n ih => exact hb _ ih
theorem G.loop4 {F : (Int32 → Int32 → Int32 → Int32 → Sg → Ro) → Int32 → Int32 → Int32 → Int32 → Sg → Ro} {rf : Int32 → Int32 → Int32 → Int32 → List (Option AV)} (hb : ∀ rec : Int32 → Int32 → Int32 → Int32 → Sg → Ro, (∀ (x1 x2 x3 x4 : Int32) (s : Sg), Gd q X pc (rf x1 x2 x3 x4) st s R cu su (rec x1 x2 x3 x4 s)) → ∀ (x1 x2 x3 x4 : Int32) (s : Sg), Gd q X pc (rf x1 x2 x3 x4) st s R cu su (F rec x1 x2 x3 x4 s)) : ∀ (n : Nat) (x1 x2 x3 x4 : Int32) (s : Sg), Gd q X pc (rf x1 x2 x3 x4) st s R cu su (itr4 F n x1 x2 x3 x4 s) := by
  intro n
  induction n with
  | zero => intro x1 x2 x3 x4 s out e; cases e
  | succ n ih => exact hb _ ih
theorem G.loop5 {F : (Int32 → Int32 → Int32 → Int32 → Int32 → Sg → Ro) → Int32 → Int32 → Int32 → Int32 → Int32 → Sg → Ro} {rf : Int32 → Int32 → Int32 → Int32 → Int32 → List (Option AV)} (hb : ∀ rec : Int32 → Int32 → Int32 → Int32 → Int32 → Sg → Ro, (∀ (x1 x2 x3 x4 x5 : Int32) (s : Sg), Gd q X pc (rf x1 x2 x3 x4 x5) st s R cu su (rec x1 x2 x3 x4 x5 s)) → ∀ (x1 x2 x3 x4 x5 : Int32) (s : Sg), Gd q X pc (rf x1 x2 x3 x4 x5) st s R cu su (F rec x1 x2 x3 x4 x5 s)) : ∀ (n : Nat) (x1 x2 x3 x4 x5 : Int32) (s : Sg), Gd q X pc (rf x1 x2 x3 x4 x5) st s R cu su (itr5 F n x1 x2 x3 x4 x5 s) := by
  intro n
  induction n with
  | zero => intro x1 x2 x3 x4 x5 s out e; cases e
  | succ n ih => exact hb _ ih
theorem G.loop6 {F : (Int32 → Int32 → Int32 → Int32 → Int32 → Int32 → Sg → Ro) → Int32 → Int32 → Int32 → Int32 → Int32 → Int32 → Sg → Ro} {rf : Int32 → Int32 → Int32 → Int32 → Int32 → Int32 → List (Option AV)} (hb : ∀ rec : Int32 → Int32 → Int32 → Int32 → Int32 → Int32 → Sg → Ro, (∀ (x1 x2 x3 x4 x5 x6 : Int32) (s : Sg), Gd q X pc (rf x1 x2 x3 x4 x5 x6) st s R cu su (rec x1 x2 x3 x4 x5 x6 s)) → ∀ (x1 x2 x3 x4 x5 x6 : Int32) (s : Sg), Gd q X pc (rf x1 x2 x3 x4 x5 x6) st s R cu su (F rec x1 x2 x3 x4 x5 x6 s)) : ∀ (n : Nat) (x1 x2 x3 x4 x5 x6 : Int32) (s : Sg), Gd q X pc (rf x1 x2 x3 x4 x5 x6) st s R cu su (itr6 F n x1 x2 x3 x4 x5 x6 s) := by
  intro n
  induction n with
  | zero => intro x1 x2 x3 x4 x5 x6 s out e; cases e
  | succ n ih => exact hb _ ih
theorem G.loop7 {F : (Int32 → Int32 → Int32 → Int32 → Int32 → Int32 → Int32 → Sg → Ro) → Int32 → Int32 → Int32 → Int32 → Int32 → Int32 → Int32 → Sg → Ro} {rf : Int32 → Int32 → Int32 → Int32 → Int32 → Int32 → Int32 → List (Option AV)} (hb : ∀ rec : Int32 → Int32 → Int32 → Int32 → Int32 → Int32 → Int32 → Sg → Ro, (∀ (x1 x2 x3 x4 x5 x6 x7 : Int32) (s : Sg), Gd q X pc (rf x1 x2 x3 x4 x5 x6 x7) st s R cu su (rec x1 x2 x3 x4 x5 x6 x7 s)) → ∀ (x1 x2 x3 x4 x5 x6 x7 : Int32) (s : Sg), Gd q X pc (rf x1 x2 x3 x4 x5 x6 x7) st s R cu su (F rec x1 x2 x3 x4 x5 x6 x7 s)) : ∀ (n : Nat) (x1 x2 x3 x4 x5 x6 x7 : Int32) (s : Sg), Gd q X pc (rf x1 x2 x3 x4 x5 x6 x7) st s R cu su (itr7 F n x1 x2 x3 x4 x5 x6 x7 s) := by
  intro n
  induction n with
  | zero => intro x1 x2 x3 x4 x5 x6 x7 s out e; cases e
  | succ n ih => exact hb _ ih
theorem G.loop8 {F : (Int32 → Int32 → Int32 → Int32 → Int32 → Int32 → Int32 → Int32 → Sg → Ro) → Int32 → Int32 → Int32 → Int32 → Int32 → Int32 → Int32 → Int32 → Sg → Ro} {rf : Int32 → Int32 → Int32 → Int32 → Int32 → Int32 → Int32 → Int32 → List (Option AV)} (hb : ∀ rec : Int32 → Int32 → Int32 → Int32 → Int32 → Int32 → Int32 → Int32 → Sg → Ro, (∀ (x1 x2 x3 x4 x5 x6 x7 x8 : Int32) (s : Sg), Gd q X pc (rf x1 x2 x3 x4 x5 x6 x7 x8) st s R cu su (rec x1 x2 x3 x4 x5 x6 x7 x8 s)) → ∀ (x1 x2 x3 x4 x5 x6 x7 x8 : Int32) (s : Sg), Gd q X pc (rf x1 x2 x3 x4 x5 x6 x7 x8) st s R cu su (F rec x1 x2 x3 x4 x5 x6 x7 x8 s)) : ∀ (n : Nat) (x1 x2 x3 x4 x5 x6 x7 x8 : Int32) (s : Sg), Gd q X pc (rf x1 x2 x3 x4 x5 x6 x7 x8) st s R cu su (itr8 F n x1 x2 x3 x4 x5 x6 x7 x8 s) := by
  intro n
  induction n with
  | zero => intro x1 x2 x3 x4 x5 x6 x7 x8 s out e; cases e
  | succ n ih => exact hb _ ih
theorem G.iadd {x y : Int32} (hd : decode (mb q) pc = .ok (.iadd, 1)) (hp : pc + 1 = pc') (k : Gd q X pc' ρ (vi (x + y) :: st) s R cu su o) : Gd q X pc ρ (vi y :: vi x :: st) s R cu su o := fun out e => by subst hp; exact Ev.iadd hd (k out e)
theorem G.isub {x y : Int32} (hd : decode (mb q) pc = .ok (.isub, 1)) (hp : pc + 1 = pc') (k : Gd q X pc' ρ (vi (x - y) :: st) s R cu su o) : Gd q X pc ρ (vi y :: vi x :: st) s R cu su o := fun out e => by subst hp; exact Ev.isub hd (k out e)
theorem G.imul {x y : Int32} (hd : decode (mb q) pc = .ok (.imul, 1)) (hp : pc + 1 = pc') (k : Gd q X pc' ρ (vi (x * y) :: st) s R cu su o) : Gd q X pc ρ (vi y :: vi x :: st) s R cu su o := fun out e => by subst hp; exact Ev.imul hd (k out e)
theorem G.iand {x y : Int32} (hd : decode (mb q) pc = .ok (.iand, 1)) (hp : pc + 1 = pc') (k : Gd q X pc' ρ (vi (x &&& y) :: st) s R cu su o) : Gd q X pc ρ (vi y :: vi x :: st) s R cu su o := fun out e => by subst hp; exact Ev.iand hd (k out e)
theorem G.ior {x y : Int32} (hd : decode (mb q) pc = .ok (.ior, 1)) (hp : pc + 1 = pc') (k : Gd q X pc' ρ (vi (x ||| y) :: st) s R cu su o) : Gd q X pc ρ (vi y :: vi x :: st) s R cu su o := fun out e => by subst hp; exact Ev.ior hd (k out e)
theorem G.ixor {x y : Int32} (hd : decode (mb q) pc = .ok (.ixor, 1)) (hp : pc + 1 = pc') (k : Gd q X pc' ρ (vi (x ^^^ y) :: st) s R cu su o) : Gd q X pc ρ (vi y :: vi x :: st) s R cu su o := fun out e => by subst hp; exact Ev.ixor hd (k out e)
theorem G.ishl {x y : Int32} (hd : decode (mb q) pc = .ok (.ishl, 1)) (hp : pc + 1 = pc') (k : Gd q X pc' ρ (vi (x <<< (y &&& 31)) :: st) s R cu su o) : Gd q X pc ρ (vi y :: vi x :: st) s R cu su o := fun out e => by subst hp; exact Ev.ishl hd (k out e)
theorem G.ishr {x y : Int32} (hd : decode (mb q) pc = .ok (.ishr, 1)) (hp : pc + 1 = pc') (k : Gd q X pc' ρ (vi (x >>> (y &&& 31)) :: st) s R cu su o) : Gd q X pc ρ (vi y :: vi x :: st) s R cu su o := fun out e => by subst hp; exact Ev.ishr hd (k out e)
theorem G.ineg {x : Int32} (hd : decode (mb q) pc = .ok (.ineg, 1)) (hp : pc + 1 = pc') (k : Gd q X pc' ρ (vi (-x) :: st) s R cu su o) : Gd q X pc ρ (vi x :: st) s R cu su o := fun out e => by subst hp; exact Ev.ineg hd (k out e)
theorem G.idiv {x y : Int32} (hd : decode (mb q) pc = .ok (.idiv, 1)) (hp : pc + 1 = pc') (k : Gd q X pc' ρ (vi (x / y) :: st) s R cu su o) : Gd q X pc ρ (vi y :: vi x :: st) s R cu su (if y = 0 then none else o) := G.ite (fun _ => G.no) (fun hne out e => by subst hp; exact Ev.idiv hd hne (k out e))
theorem G.idivK {x y : Int32} (hne : ¬ y = 0) (hd : decode (mb q) pc = .ok (.idiv, 1)) (hp : pc + 1 = pc') (k : Gd q X pc' ρ (vi (x / y) :: st) s R cu su o) : Gd q X pc ρ (vi y :: vi x :: st) s R cu su o := fun out e => by subst hp; exact Ev.idiv hd hne (k out e)
theorem G.irem {x y : Int32} (hd : decode (mb q) pc = .ok (.irem, 1)) (hp : pc + 1 = pc') (k : Gd q X pc' ρ (vi (x - x / y * y) :: st) s R cu su o) : Gd q X pc ρ (vi y :: vi x :: st) s R cu su (if y = 0 then none else o) := G.ite (fun _ => G.no) (fun hne out e => by subst hp; exact Ev.irem hd hne (k out e))
theorem G.iremK {x y : Int32} (hne : ¬ y = 0) (hd : decode (mb q) pc = .ok (.irem, 1)) (hp : pc + 1 = pc') (k : Gd q X pc' ρ (vi (x - x / y * y) :: st) s R cu su o) : Gd q X pc ρ (vi y :: vi x :: st) s R cu su o := fun out e => by subst hp; exact Ev.irem hd hne (k out e)
theorem G.iushr {x y v : Int32} (hd : decode (mb q) pc = .ok (.iushr, 1)) (hp : pc + 1 = pc') (hv : (x.toUInt32 >>> (y.toUInt32 &&& Int32.toUInt32 31)).toInt32 = v) (k : Gd q X pc' ρ (vi v :: st) s R cu su o) : Gd q X pc ρ (vi y :: vi x :: st) s R cu su o := fun out e => by subst hp; exact Ev.iushr hd hv (k out e)
theorem G.iconst {n : Int} {v : Int32} (hd : decode (mb q) pc = .ok (.iconst n, 1)) (hp : pc + 1 = pc') (hv : Int32.ofInt n = v) (k : Gd q X pc' ρ (vi v :: st) s R cu su o) : Gd q X pc ρ (st) s R cu su o := fun out e => by subst hp; exact Ev.iconst hd hv (k out e)
theorem G.bipush {n : Int} {v : Int32} (hd : decode (mb q) pc = .ok (.bipush n, 2)) (hp : pc + 2 = pc') (hv : (Int8.ofInt n).toInt32 = v) (k : Gd q X pc' ρ (vi v :: st) s R cu su o) : Gd q X pc ρ (st) s R cu su o := fun out e => by subst hp; exact Ev.bipush hd hv (k out e)
theorem G.sipush {n : Int} {v : Int32} (hd : decode (mb q) pc = .ok (.sipush n, 3)) (hp : pc + 3 = pc') (hv : (Int16.ofInt n).toInt32 = v) (k : Gd q X pc' ρ (vi v :: st) s R cu su o) : Gd q X pc ρ (st) s R cu su o := fun out e => by subst hp; exact Ev.sipush hd hv (k out e)
theorem G.ldc {n : Nat} {v : Int32} (hd : decode (mb q) pc = .ok (.ldc n, 2)) (hp : pc + 2 = pc') (hv : Cond.constant (my q).cls n v ∈ Wt) (k : Gd q X pc' ρ (vi v :: st) s R cu su o) : Gd q X pc ρ (st) s R cu su o := fun out e => by subst hp; exact Ev.ldc hd hv (k out e)
theorem G.iload_n {k4 : Fin 4} {x : Int32} (hd : decode (mb q) pc = .ok (.iload_n k4, 1)) (hp : pc + 1 = pc') (hl : ρ[(k4 : Nat)]? = some (some (vi x))) (k : Gd q X pc' ρ (vi x :: st) s R cu su o) : Gd q X pc ρ (st) s R cu su o := fun out e => by subst hp; exact Ev.iload_n hd hl (k out e)
theorem G.iload {i : Nat} {x : Int32} (hd : decode (mb q) pc = .ok (.iload i, 2)) (hp : pc + 2 = pc') (hl : ρ[i]? = some (some (vi x))) (k : Gd q X pc' ρ (vi x :: st) s R cu su o) : Gd q X pc ρ (st) s R cu su o := fun out e => by subst hp; exact Ev.iload hd hl (k out e)
theorem G.aload_n {k4 : Fin 4} {x : Nat} (hd : decode (mb q) pc = .ok (.aload_n k4, 1)) (hp : pc + 1 = pc') (hl : ρ[(k4 : Nat)]? = some (some (vr x))) (k : Gd q X pc' ρ (vr x :: st) s R cu su o) : Gd q X pc ρ (st) s R cu su o := fun out e => by subst hp; exact Ev.aload_n hd hl (k out e)
theorem G.aload {i : Nat} {x : Nat} (hd : decode (mb q) pc = .ok (.aload i, 2)) (hp : pc + 2 = pc') (hl : ρ[i]? = some (some (vr x))) (k : Gd q X pc' ρ (vr x :: st) s R cu su o) : Gd q X pc ρ (st) s R cu su o := fun out e => by subst hp; exact Ev.aload hd hl (k out e)
theorem G.aloadS_n {k4 : Fin 4} (hd : decode (mb q) pc = .ok (.aload_n k4, 1)) (hp : pc + 1 = pc') (hl : ρ[(k4 : Nat)]? = some (some vs)) (k : Gd q X pc' ρ (vs :: st) s R cu su o) : Gd q X pc ρ (st) s R cu su o := fun out e => by subst hp; exact Ev.aloadS_n hd hl (k out e)
theorem G.istore_n {k4 : Fin 4} {x : Int32} {ρ' : List (Option AV)} (hd : decode (mb q) pc = .ok (.istore_n k4, 1)) (hp : pc + 1 = pc') (hl : (k4 : Nat) < ml q) (hρ : ρ.set (k4 : Nat) (some (vi x)) = ρ') (k : Gd q X pc' ρ' st s R cu su o) : Gd q X pc ρ (vi x :: st) s R cu su o := fun out e => by subst hp; exact Ev.istore_n hd hl hρ (k out e)
theorem G.istore {i : Nat} {x : Int32} {ρ' : List (Option AV)} (hd : decode (mb q) pc = .ok (.istore i, 2)) (hp : pc + 2 = pc') (hl : i < ml q) (hρ : ρ.set i (some (vi x)) = ρ') (k : Gd q X pc' ρ' st s R cu su o) : Gd q X pc ρ (vi x :: st) s R cu su o := fun out e => by subst hp; exact Ev.istore hd hl hρ (k out e)
theorem G.astore_n {k4 : Fin 4} {x : Nat} {ρ' : List (Option AV)} (hd : decode (mb q) pc = .ok (.astore_n k4, 1)) (hp : pc + 1 = pc') (hl : (k4 : Nat) < ml q) (hρ : ρ.set (k4 : Nat) (some (vr x)) = ρ') (k : Gd q X pc' ρ' st s R cu su o) : Gd q X pc ρ (vr x :: st) s R cu su o := fun out e => by subst hp; exact Ev.astore_n hd hl hρ (k out e)
theorem G.astore {i : Nat} {x : Nat} {ρ' : List (Option AV)} (hd : decode (mb q) pc = .ok (.astore i, 2)) (hp : pc + 2 = pc') (hl : i < ml q) (hρ : ρ.set i (some (vr x)) = ρ') (k : Gd q X pc' ρ' st s R cu su o) : Gd q X pc ρ (vr x :: st) s R cu su o := fun out e => by subst hp; exact Ev.astore hd hl hρ (k out e)
theorem G.iinc {i : Nat} {n : Int} {x w v : Int32} {ρ' : List (Option AV)} (hd : decode (mb q) pc = .ok (.iinc i n, 3)) (hp : pc + 3 = pc') (hx : ρ[i]? = some (some (vi x))) (hl : i < ml q) (hw : Int32.ofInt n = w) (hv : x + w = v) (hρ : ρ.set i (some (vi v)) = ρ') (k : Gd q X pc' ρ' st s R cu su o) : Gd q X pc ρ st s R cu su o := fun out e => by subst hp; exact Ev.iinc hd hx hl (by rw [hw]; exact hv) hρ (k out e)
theorem G.dup {v : AV} (hd : decode (mb q) pc = .ok (.dup, 1)) (hp : pc + 1 = pc') (k : Gd q X pc' ρ (v :: v :: st) s R cu su o) : Gd q X pc ρ (v :: st) s R cu su o := fun out e => by subst hp; exact Ev.dup hd (k out e)
theorem G.pop {v : AV} (hd : decode (mb q) pc = .ok (.pop, 1)) (hp : pc + 1 = pc') (k : Gd q X pc' ρ (st) s R cu su o) : Gd q X pc ρ (v :: st) s R cu su o := fun out e => by subst hp; exact Ev.pop hd (k out e)
theorem G.dup_x1 {v w : AV} (hd : decode (mb q) pc = .ok (.dup_x1, 1)) (hp : pc + 1 = pc') (k : Gd q X pc' ρ (v :: w :: v :: st) s R cu su o) : Gd q X pc ρ (v :: w :: st) s R cu su o := fun out e => by subst hp; exact Ev.dup_x1 hd (k out e)
theorem G.dup_x2 {v w u : AV} (hd : decode (mb q) pc = .ok (.dup_x2, 1)) (hp : pc + 1 = pc') (k : Gd q X pc' ρ (v :: w :: u :: v :: st) s R cu su o) : Gd q X pc ρ (v :: w :: u :: st) s R cu su o := fun out e => by subst hp; exact Ev.dup_x2 hd (k out e)
theorem G.dup2 {v w : AV} (hd : decode (mb q) pc = .ok (.dup2, 1)) (hp : pc + 1 = pc') (k : Gd q X pc' ρ (v :: w :: v :: w :: st) s R cu su o) : Gd q X pc ρ (v :: w :: st) s R cu su o := fun out e => by subst hp; exact Ev.dup2 hd (k out e)
theorem G.null (hd : decode (mb q) pc = .ok (.aconst_null, 1)) (hp : pc + 1 = pc') (k : Gd q X pc' ρ (vn :: st) s R cu su o) : Gd q X pc ρ (st) s R cu su o := fun out e => by subst hp; exact Ev.null hd (k out e)
theorem G.if_eq {x : Int32} {off : Int} {tgt : Nat} (hd : decode (mb q) pc = .ok (.ifCond .eq off, 3)) (hp : pc + 3 = pc') (ht : (pc : Int) + off = (tgt : Int)) (k1 : Gd q X tgt ρ st s R cu su o1) (k2 : Gd q X pc' ρ st s R cu su o2) : Gd q X pc ρ (vi x :: st) s R cu su (if x = 0 then o1 else o2) := G.ite (fun g out e => by subst hp; exact Ev.if_eq hd ht (fun _ => k1 out e) (fun z => absurd g z)) (fun g out e => by subst hp; exact Ev.if_eq hd ht (fun z => absurd z g) (fun _ => k2 out e))
theorem G.if_ne {x : Int32} {off : Int} {tgt : Nat} (hd : decode (mb q) pc = .ok (.ifCond .ne off, 3)) (hp : pc + 3 = pc') (ht : (pc : Int) + off = (tgt : Int)) (k2 : Gd q X pc' ρ st s R cu su o2) (k1 : Gd q X tgt ρ st s R cu su o1) : Gd q X pc ρ (vi x :: st) s R cu su (if x = 0 then o2 else o1) := G.ite (fun g out e => by subst hp; exact Ev.if_ne hd ht (fun z => absurd g z) (fun _ => k2 out e)) (fun g out e => by subst hp; exact Ev.if_ne hd ht (fun _ => k1 out e) (fun z => absurd z g))
theorem G.if_lt {x : Int32} {off : Int} {tgt : Nat} (hd : decode (mb q) pc = .ok (.ifCond .lt off, 3)) (hp : pc + 3 = pc') (ht : (pc : Int) + off = (tgt : Int)) (k1 : Gd q X tgt ρ st s R cu su o1) (k2 : Gd q X pc' ρ st s R cu su o2) : Gd q X pc ρ (vi x :: st) s R cu su (if x < 0 then o1 else o2) := G.ite (fun g out e => by subst hp; exact Ev.if_lt hd ht (fun _ => k1 out e) (fun z => absurd g z)) (fun g out e => by subst hp; exact Ev.if_lt hd ht (fun z => absurd z g) (fun _ => k2 out e))
theorem G.if_ge {x : Int32} {off : Int} {tgt : Nat} (hd : decode (mb q) pc = .ok (.ifCond .ge off, 3)) (hp : pc + 3 = pc') (ht : (pc : Int) + off = (tgt : Int)) (k1 : Gd q X tgt ρ st s R cu su o1) (k2 : Gd q X pc' ρ st s R cu su o2) : Gd q X pc ρ (vi x :: st) s R cu su (if 0 ≤ x then o1 else o2) := G.ite (fun g out e => by subst hp; exact Ev.if_ge hd ht (fun _ => k1 out e) (fun z => absurd g z)) (fun g out e => by subst hp; exact Ev.if_ge hd ht (fun z => absurd z g) (fun _ => k2 out e))
theorem G.if_gt {x : Int32} {off : Int} {tgt : Nat} (hd : decode (mb q) pc = .ok (.ifCond .gt off, 3)) (hp : pc + 3 = pc') (ht : (pc : Int) + off = (tgt : Int)) (k1 : Gd q X tgt ρ st s R cu su o1) (k2 : Gd q X pc' ρ st s R cu su o2) : Gd q X pc ρ (vi x :: st) s R cu su (if 0 < x then o1 else o2) := G.ite (fun g out e => by subst hp; exact Ev.if_gt hd ht (fun _ => k1 out e) (fun z => absurd g z)) (fun g out e => by subst hp; exact Ev.if_gt hd ht (fun z => absurd z g) (fun _ => k2 out e))
theorem G.if_le {x : Int32} {off : Int} {tgt : Nat} (hd : decode (mb q) pc = .ok (.ifCond .le off, 3)) (hp : pc + 3 = pc') (ht : (pc : Int) + off = (tgt : Int)) (k1 : Gd q X tgt ρ st s R cu su o1) (k2 : Gd q X pc' ρ st s R cu su o2) : Gd q X pc ρ (vi x :: st) s R cu su (if x ≤ 0 then o1 else o2) := G.ite (fun g out e => by subst hp; exact Ev.if_le hd ht (fun _ => k1 out e) (fun z => absurd g z)) (fun g out e => by subst hp; exact Ev.if_le hd ht (fun z => absurd z g) (fun _ => k2 out e))
theorem G.icmp_eq {x y : Int32} {off : Int} {tgt : Nat} (hd : decode (mb q) pc = .ok (.if_icmp .eq off, 3)) (hp : pc + 3 = pc') (ht : (pc : Int) + off = (tgt : Int)) (k1 : Gd q X tgt ρ st s R cu su o1) (k2 : Gd q X pc' ρ st s R cu su o2) : Gd q X pc ρ (vi y :: vi x :: st) s R cu su (if x = y then o1 else o2) := G.ite (fun g out e => by subst hp; exact Ev.icmp_eq hd ht (fun _ => k1 out e) (fun z => absurd g z)) (fun g out e => by subst hp; exact Ev.icmp_eq hd ht (fun z => absurd z g) (fun _ => k2 out e))
theorem G.icmp_ne {x y : Int32} {off : Int} {tgt : Nat} (hd : decode (mb q) pc = .ok (.if_icmp .ne off, 3)) (hp : pc + 3 = pc') (ht : (pc : Int) + off = (tgt : Int)) (k2 : Gd q X pc' ρ st s R cu su o2) (k1 : Gd q X tgt ρ st s R cu su o1) : Gd q X pc ρ (vi y :: vi x :: st) s R cu su (if x = y then o2 else o1) := G.ite (fun g out e => by subst hp; exact Ev.icmp_ne hd ht (fun z => absurd g z) (fun _ => k2 out e)) (fun g out e => by subst hp; exact Ev.icmp_ne hd ht (fun _ => k1 out e) (fun z => absurd z g))
theorem G.icmp_lt {x y : Int32} {off : Int} {tgt : Nat} (hd : decode (mb q) pc = .ok (.if_icmp .lt off, 3)) (hp : pc + 3 = pc') (ht : (pc : Int) + off = (tgt : Int)) (k1 : Gd q X tgt ρ st s R cu su o1) (k2 : Gd q X pc' ρ st s R cu su o2) : Gd q X pc ρ (vi y :: vi x :: st) s R cu su (if x < y then o1 else o2) := G.ite (fun g out e => by subst hp; exact Ev.icmp_lt hd ht (fun _ => k1 out e) (fun z => absurd g z)) (fun g out e => by subst hp; exact Ev.icmp_lt hd ht (fun z => absurd z g) (fun _ => k2 out e))
theorem G.icmp_ge {x y : Int32} {off : Int} {tgt : Nat} (hd : decode (mb q) pc = .ok (.if_icmp .ge off, 3)) (hp : pc + 3 = pc') (ht : (pc : Int) + off = (tgt : Int)) (k1 : Gd q X tgt ρ st s R cu su o1) (k2 : Gd q X pc' ρ st s R cu su o2) : Gd q X pc ρ (vi y :: vi x :: st) s R cu su (if y ≤ x then o1 else o2) := G.ite (fun g out e => by subst hp; exact Ev.icmp_ge hd ht (fun _ => k1 out e) (fun z => absurd g z)) (fun g out e => by subst hp; exact Ev.icmp_ge hd ht (fun z => absurd z g) (fun _ => k2 out e))
theorem G.icmp_gt {x y : Int32} {off : Int} {tgt : Nat} (hd : decode (mb q) pc = .ok (.if_icmp .gt off, 3)) (hp : pc + 3 = pc') (ht : (pc : Int) + off = (tgt : Int)) (k1 : Gd q X tgt ρ st s R cu su o1) (k2 : Gd q X pc' ρ st s R cu su o2) : Gd q X pc ρ (vi y :: vi x :: st) s R cu su (if y < x then o1 else o2) := G.ite (fun g out e => by subst hp; exact Ev.icmp_gt hd ht (fun _ => k1 out e) (fun z => absurd g z)) (fun g out e => by subst hp; exact Ev.icmp_gt hd ht (fun z => absurd z g) (fun _ => k2 out e))
theorem G.icmp_le {x y : Int32} {off : Int} {tgt : Nat} (hd : decode (mb q) pc = .ok (.if_icmp .le off, 3)) (hp : pc + 3 = pc') (ht : (pc : Int) + off = (tgt : Int)) (k1 : Gd q X tgt ρ st s R cu su o1) (k2 : Gd q X pc' ρ st s R cu su o2) : Gd q X pc ρ (vi y :: vi x :: st) s R cu su (if x ≤ y then o1 else o2) := G.ite (fun g out e => by subst hp; exact Ev.icmp_le hd ht (fun _ => k1 out e) (fun z => absurd g z)) (fun g out e => by subst hp; exact Ev.icmp_le hd ht (fun z => absurd z g) (fun _ => k2 out e))
theorem G.goto {off : Int} {tgt : Nat} (hd : decode (mb q) pc = .ok (.goto off, 3)) (ht : (pc : Int) + off = (tgt : Int)) (k : Gd q X tgt ρ st s R cu su o) : Gd q X pc ρ st s R cu su o := fun out e => Ev.goto hd ht (k out e)
/-- a switch by cases of its number -/
theorem G.tabIn {dflt lo hi : Int} {offs : Array Int} {len : Nat} {x c : Int32} {off : Int} {tgt : Nat} (hd : decode (mb q) pc = .ok (.tableswitch dflt lo hi offs, len)) (e0 : x = c) (h1 : ¬ c.toInt < lo ∧ ¬ hi < c.toInt) (ho : offs[(c.toInt - lo).toNat]? = some off) (ht : (pc : Int) + off = (tgt : Int)) (k : Gd q X tgt ρ st s R cu su o) : Gd q X pc ρ (vi x :: st) s R cu su o := fun out e => by subst e0; exact Ev.tableIn hd h1.1 h1.2 ho ht (k out e)
theorem G.tabOut {dflt lo hi : Int} {offs : Array Int} {len : Nat} {x : Int32} {tgt : Nat} (hd : decode (mb q) pc = .ok (.tableswitch dflt lo hi offs, len)) (hx : x.toInt < lo ∨ hi < x.toInt) (ht : (pc : Int) + dflt = (tgt : Int)) (k : Gd q X tgt ρ st s R cu su o) : Gd q X pc ρ (vi x :: st) s R cu su o := fun out e => Ev.tableOut hd hx ht (k out e)
theorem G.look {dflt : Int} {ps : Array (Int × Int)} {len : Nat} {x c : Int32} {off : Int} {tgt : Nat} (hd : decode (mb q) pc = .ok (.lookupswitch dflt ps, len)) (e0 : x = c) (hp : (ps.toList.zip (ps.toList.drop 1)).all (fun (a, next) => a.1 < next.1) = true) (ho : Op.lookupswitch.offset ps.toList dflt c.toInt = off) (ht : (pc : Int) + off = (tgt : Int)) (k : Gd q X tgt ρ st s R cu su o) : Gd q X pc ρ (vi x :: st) s R cu su o := fun out e => by subst e0; exact Ev.lookup hd hp ho ht (k out e)
theorem G.lookOut {dflt : Int} {ps : Array (Int × Int)} {len : Nat} {x : Int32} {tgt : Nat} (hd : decode (mb q) pc = .ok (.lookupswitch dflt ps, len)) (hp : (ps.toList.zip (ps.toList.drop 1)).all (fun (a, next) => a.1 < next.1) = true) (ho : Op.lookupswitch.offset ps.toList dflt x.toInt = dflt) (ht : (pc : Int) + dflt = (tgt : Int)) (k : Gd q X tgt ρ st s R cu su o) : Gd q X pc ρ (vi x :: st) s R cu su o := fun out e => Ev.lookup hd hp ho ht (k out e)
/-- x != 0 as a value -/
theorem G.bz {x : Int32} {o0 o3 : Int} {p1 p2 p3 p4 : Nat} (hd : decode (mb q) pc = .ok (.ifCond .eq o0, 3)) (hp : pc + 3 = p1) (ht : (pc : Int) + o0 = (p3 : Int)) (hd1 : decode (mb q) p1 = .ok (.iconst 1, 1)) (hp1 : p1 + 1 = p2) (hd2 : decode (mb q) p2 = .ok (.goto o3, 3)) (ht2 : (p2 : Int) + o3 = (p4 : Int)) (hd3 : decode (mb q) p3 = .ok (.iconst 0, 1)) (hp3 : p3 + 1 = p4) (k : Gd q X p4 ρ (vi (nz x) :: st) s R cu su o) : Gd q X pc ρ (vi x :: st) s R cu su o := fun out e => by
  subst hp; subst hp1; subst hp3
  refine Ev.if_eq hd ht (fun g => Ev.iconst hd3 (v := 0) (by decide) ?_) (fun g => Ev.iconst hd1 (v := 1) (by decide) (Ev.goto hd2 ht2 ?_))
  · have := k out e
    rwa [nz, if_pos g] at this
  · have := k out e
    rwa [nz, if_neg g] at this
/-- fields and arrays -/
theorem G.get {idx i ci kf : Nat} {fs : List AV} {v : AV} (hd : decode (mb q) pc = .ok (.getfield idx, 3)) (hp : pc + 3 = pc') (hf : FG (my q).cls idx ci kf) (ho : (HX s R)[i]? = some (ao ci fs)) (hv : fs[kf]? = some v) (k : Gd q X pc' ρ (v :: st) s R cu su o) : Gd q X pc ρ (vr i :: st) s R cu su o := fun out e => by subst hp; exact Ev.get hd hf ho hv (k out e)
theorem G.put {idx i ci kf : Nat} {ty : FieldType} {fs : List AV} {v : AV} {s' : Sg} (hd : decode (mb q) pc = .ok (.putfield idx, 3)) (hp : pc + 3 = pc') (hf : FPo (my q).cls idx ci kf ty) (hw : okt ty v) (ho : (HX s R)[i]? = some (ao ci fs)) (hl : decide (kf < fs.length) = true) (hh : (HX s R).set i (ao ci (fs.set kf v)) = HX s' R) (k : Gd q X pc' ρ st s' R cu su o) : Gd q X pc ρ (v :: vr i :: st) s R cu su o := fun out e => by subst hp; exact Ev.put hd hf hw ho (of_decide_eq_true hl) hh (k out e)
theorem G.iald {i n : Nat} {f : Nat → Int32} {x : Int32} (hd : decode (mb q) pc = .ok (.iaload, 1)) (hp : pc + 1 = pc') (ha : (HX s R)[i]? = some (ai .int n f)) (k : Gd q X pc' ρ (vi (f (ix x)) :: st) s R cu su o) : Gd q X pc ρ (vi x :: vr i :: st) s R cu su (if inb x n = true then o else none) := G.grd (fun g out e => by subst hp; exact Ev.iald hd ha (inb_in g) (k out e))
theorem G.zald {i n : Nat} {f : Nat → Int32} {x : Int32} (hd : decode (mb q) pc = .ok (.baload, 1)) (hp : pc + 1 = pc') (ha : (HX s R)[i]? = some (ai .boolean n f)) (k : Gd q X pc' ρ (vi (f (ix x)) :: st) s R cu su o) : Gd q X pc ρ (vi x :: vr i :: st) s R cu su (if inb x n = true then o else none) := G.grd (fun g out e => by subst hp; exact Ev.zald hd ha (inb_in g) (k out e))
theorem G.iast {i n : Nat} {f : Nat → Int32} {x y : Int32} {s' : Sg} (hd : decode (mb q) pc = .ok (.iastore, 1)) (hp : pc + 1 = pc') (ha : (HX s R)[i]? = some (ai .int n f)) (hh : (HX s R).set i (ai .int n (upd f (ix x) y)) = HX s' R) (k : Gd q X pc' ρ st s' R cu su o) : Gd q X pc ρ (vi y :: vi x :: vr i :: st) s R cu su (if inb x n = true then o else none) := G.grd (fun g out e => by subst hp; exact Ev.iast hd ha (inb_in g) hh (k out e))
theorem G.zast {i n : Nat} {f : Nat → Int32} {x y : Int32} {s' : Sg} (hd : decode (mb q) pc = .ok (.bastore, 1)) (hp : pc + 1 = pc') (ha : (HX s R)[i]? = some (ai .boolean n f)) (hh : (HX s R).set i (ai .boolean n (upd f (ix x) y)) = HX s' R) (k : Gd q X pc' ρ st s' R cu su o) : Gd q X pc ρ (vi y :: vi x :: vr i :: st) s R cu su (if inb x n = true then (if isb y = true then o else none) else none) := G.grd (fun g => G.grd (fun g2 out e => by subst hp; exact Ev.zast hd ha (inb_in g) (isb_nar g2) hh (k out e)))
theorem G.alen {i n : Nat} {ty : FieldType} {f : Nat → Int32} {v : Int32} (hd : decode (mb q) pc = .ok (.arraylength, 1)) (hp : pc + 1 = pc') (ha : (HX s R)[i]? = some (ai ty n f)) (hv : Int32.ofNat n = v) (k : Gd q X pc' ρ (vi v :: st) s R cu su o) : Gd q X pc ρ (vr i :: st) s R cu su o := fun out e => by subst hp; exact Ev.alen hd ha hv (k out e)
theorem G.sld {L0 : Nat} {xs : Nat → Int32} {x : Int32} (hd : decode (mb q) pc = .ok (.iaload, 1)) (hp : pc + 1 = pc') (k : Gd q (some (L0, xs)) pc' ρ (vi (xs (ix x)) :: st) s R cu su o) : Gd q (some (L0, xs)) pc ρ (vi x :: vs :: st) s R cu su (if inb x L0 = true then o else none) := G.grd (fun g out e => by subst hp; exact Ev.sld rfl hd (inb_in g) (k out e))
theorem G.slen {L0 : Nat} {xs : Nat → Int32} (hd : decode (mb q) pc = .ok (.arraylength, 1)) (hp : pc + 1 = pc') (k : Gd q (some (L0, xs)) pc' ρ (vi (Int32.ofNat L0) :: st) s R cu su o) : Gd q (some (L0, xs)) pc ρ (vs :: st) s R cu su o := fun out e => by subst hp; exact Ev.slen rfl hd (k out e)
/-- calls: the callee computes f -/
theorem HX_len2 (s s' : Sg) (R : List AC) : (HX s R).length = (HX s' R).length := rfl
theorem G.callVi {j : MI} {f : Ro} {kf : Int32 → Sg → Ro} {idx i ci n : Nat} {T0 : u_T} {N0 : Nat} {As stk fs : List AV} {ty : FieldType} (hj : Ct j (vr i :: As) s R f) (hd : decode (mb q) pc = .ok (.invokevirtual idx, 3)) (hp : pc + 3 = pc') (hl : LM (my q).cls idx (my j)) (hm : MK j n) (hv : MV j) (hz : (mR j).cells = 0 ∧ (mR j).slots = 0) (hR : Rle j q) (ho : (HX s R)[i]? = some (ao ci fs)) (hcl : vwCl[ci]? = some ((my j).cls, T0, N0))
    (hs : stk = As.reverse ++ vr i :: st) (hn : As.length = n) (hst : decide (st.length ≤ 8) = true) (hc : cu ≤ (mR q).cells ∧ su ≤ (mR q).slots) (hr : mr j = some ty) (k : ∀ (v : Int32) (s' : Sg), Gd q X pc' ρ (vi v :: st) s' R cu su (kf v s')) : Gd q X pc ρ stk s R cu su (bnd f kf) := by
  intro out e
  subst hp
  rcases hf : f with _ | ⟨v, s'⟩
  · rw [hf] at e; cases e
  · rw [hf] at e
    refine Ev.callV (hj (v, s') hf) hd hl hm hv hR ho hcl hs hn (of_decide_eq_true hst) (by rw [hz.1, hz.2]; exact hc) (fun r h' hr => Or.inl (by rw [hr.2]; exact HX_len2 _ _ _)) ?_
    intro r h' hr'
    have e1 : r = (mr j).map (fun _ => vi v) := hr'.1
    have e2 : h' = HX s' R := hr'.2
    rw [hr] at e1
    subst e1; subst e2
    rw [hz.1, hz.2]
    exact k v s' out e
theorem G.callVv {j : MI} {f : Ro} {kf : Int32 → Sg → Ro} {idx i ci n : Nat} {T0 : u_T} {N0 : Nat} {As stk fs : List AV} (hj : Ct j (vr i :: As) s R f) (hd : decode (mb q) pc = .ok (.invokevirtual idx, 3)) (hp : pc + 3 = pc') (hl : LM (my q).cls idx (my j)) (hm : MK j n) (hv : MV j) (hz : (mR j).cells = 0 ∧ (mR j).slots = 0) (hR : Rle j q) (ho : (HX s R)[i]? = some (ao ci fs)) (hcl : vwCl[ci]? = some ((my j).cls, T0, N0))
    (hs : stk = As.reverse ++ vr i :: st) (hn : As.length = n) (hst : decide (st.length ≤ 8) = true) (hc : cu ≤ (mR q).cells ∧ su ≤ (mR q).slots) (hr : mr j = none) (k : ∀ (v : Int32) (s' : Sg), Gd q X pc' ρ (st) s' R cu su (kf v s')) : Gd q X pc ρ stk s R cu su (bnd f kf) := by
  intro out e
  subst hp
  rcases hf : f with _ | ⟨v, s'⟩
  · rw [hf] at e; cases e
  · rw [hf] at e
    refine Ev.callV (hj (v, s') hf) hd hl hm hv hR ho hcl hs hn (of_decide_eq_true hst) (by rw [hz.1, hz.2]; exact hc) (fun r h' hr => Or.inl (by rw [hr.2]; exact HX_len2 _ _ _)) ?_
    intro r h' hr'
    have e1 : r = (mr j).map (fun _ => vi v) := hr'.1
    have e2 : h' = HX s' R := hr'.2
    rw [hr] at e1
    subst e1; subst e2
    rw [hz.1, hz.2]
    exact k v s' out e
theorem G.callSi {j : MI} {f : Ro} {kf : Int32 → Sg → Ro} {idx n : Nat} {As stk : List AV} {ty : FieldType} (hj : Ct j As s R f) (hd : decode (mb q) pc = .ok (.invokestatic idx, 3)) (hp : pc + 3 = pc') (hl : LM (my q).cls idx (my j)) (hm : MK j n) (hv : Cond.static (my j) ∈ Wt) (hz : (mR j).cells = 0 ∧ (mR j).slots = 0) (hR : Rle j q)
    (hs : stk = As.reverse ++ st) (hn : As.length = n) (hst : decide (st.length ≤ 8) = true) (hc : cu ≤ (mR q).cells ∧ su ≤ (mR q).slots) (hr : mr j = some ty) (k : ∀ (v : Int32) (s' : Sg), Gd q X pc' ρ (vi v :: st) s' R cu su (kf v s')) : Gd q X pc ρ stk s R cu su (bnd f kf) := by
  intro out e
  subst hp
  rcases hf : f with _ | ⟨v, s'⟩
  · rw [hf] at e; cases e
  · rw [hf] at e
    refine Ev.callS (hj (v, s') hf) hd hl hm hv hR hs hn (of_decide_eq_true hst) (by rw [hz.1, hz.2]; exact hc) (fun r h' hr => Or.inl (by rw [hr.2]; exact HX_len2 _ _ _)) ?_
    intro r h' hr'
    have e1 : r = (mr j).map (fun _ => vi v) := hr'.1
    have e2 : h' = HX s' R := hr'.2
    rw [hr] at e1
    subst e1; subst e2
    rw [hz.1, hz.2]
    exact k v s' out e
theorem G.callSv {j : MI} {f : Ro} {kf : Int32 → Sg → Ro} {idx n : Nat} {As stk : List AV} (hj : Ct j As s R f) (hd : decode (mb q) pc = .ok (.invokestatic idx, 3)) (hp : pc + 3 = pc') (hl : LM (my q).cls idx (my j)) (hm : MK j n) (hv : Cond.static (my j) ∈ Wt) (hz : (mR j).cells = 0 ∧ (mR j).slots = 0) (hR : Rle j q)
    (hs : stk = As.reverse ++ st) (hn : As.length = n) (hst : decide (st.length ≤ 8) = true) (hc : cu ≤ (mR q).cells ∧ su ≤ (mR q).slots) (hr : mr j = none) (k : ∀ (v : Int32) (s' : Sg), Gd q X pc' ρ (st) s' R cu su (kf v s')) : Gd q X pc ρ stk s R cu su (bnd f kf) := by
  intro out e
  subst hp
  rcases hf : f with _ | ⟨v, s'⟩
  · rw [hf] at e; cases e
  · rw [hf] at e
    refine Ev.callS (hj (v, s') hf) hd hl hm hv hR hs hn (of_decide_eq_true hst) (by rw [hz.1, hz.2]; exact hc) (fun r h' hr => Or.inl (by rw [hr.2]; exact HX_len2 _ _ _)) ?_
    intro r h' hr'
    have e1 : r = (mr j).map (fun _ => vi v) := hr'.1
    have e2 : h' = HX s' R := hr'.2
    rw [hr] at e1
    subst e1; subst e2
    rw [hz.1, hz.2]
    exact k v s' out e
/-- System.arraycopy -/
theorem G.acopy {idx i0 i1 n0 n1 : Nat} {f g : Nat → Int32} {sp dp n : Int32} {s' : Sg} (hd : decode (mb q) pc = .ok (.invokestatic idx, 3)) (hp : pc + 3 = pc') (hw1 : Cond.methodLink (my q).cls idx arraycopyName ∈ Wt) (hw2 : Cond.native arraycopyName ∈ Wt) (hw3 : Cond.static arraycopyName ∈ Wt) (hw4 : Cond.initialized "java/lang/System" ∈ Wt)
    (h0 : (HX s R)[i0]? = some (ai .int n0 f)) (h1 : (HX s R)[i1]? = some (ai .int n1 g)) (hfr : 1 ≤ (mR q).frames) (hlo : decide (st.length + (nativeFrameWords "java/lang/System" "arraycopy" 5 + 11) ≤ (mR q).locals) = true)
    (hh : (HX s R).set i1 (ai .int n1 (va_cpy f g (ix sp) (ix dp) (ix n))) = HX s' R) (k : Gd q X pc' ρ st s' R cu su o) : Gd q X pc ρ (vi n :: vi dp :: vr i1 :: vi sp :: vr i0 :: st) s R cu su (if (¬ sp < 0 ∧ ¬ dp < 0 ∧ ¬ n < 0) ∧ ix sp + ix n ≤ n0 ∧ ix dp + ix n ≤ n1 then o else none) := G.grd (fun g out e => by subst hp; exact Ev.acopy hd hw1 hw2 hw3 hw4 h0 h1 g.1.1 g.1.2.1 g.1.2.2 g.2.1 g.2.2 hfr (of_decide_eq_true hlo) hh (k out e))
/-- the end -/
theorem G.iret {x : Int32} (hd : decode (mb q) pc = .ok (.ireturn, 1)) (hn : mr q = some .int) (hc : cu ≤ (mR q).cells ∧ su ≤ (mR q).slots) : Gd q X pc ρ [vi x] s R cu su (some (x, s)) := fun out e => by
  cases e
  exact Ev.ireturn hd ⟨_, hn, rfl⟩ hc.1 hc.2 ⟨by rw [hn]; rfl, rfl⟩
theorem G.zret {x : Int32} (hd : decode (mb q) pc = .ok (.ireturn, 1)) (hn : mr q = some .boolean) (hc : cu ≤ (mR q).cells ∧ su ≤ (mR q).slots) : Gd q X pc ρ [vi x] s R cu su (if isb x = true then some (x, s) else none) := G.grd (fun g out e => by
  cases e
  exact Ev.ireturn hd ⟨_, hn, isb_narrow g⟩ hc.1 hc.2 ⟨by rw [hn]; rfl, rfl⟩)
theorem G.zretK {x : Int32} (g : isb x = true) (hd : decode (mb q) pc = .ok (.ireturn, 1)) (hn : mr q = some .boolean) (hc : cu ≤ (mR q).cells ∧ su ≤ (mR q).slots) : Gd q X pc ρ [vi x] s R cu su (some (x, s)) := fun out e => by
  cases e
  exact Ev.ireturn hd ⟨_, hn, isb_narrow g⟩ hc.1 hc.2 ⟨by rw [hn]; rfl, rfl⟩
theorem G.vret (hd : decode (mb q) pc = .ok (.return_, 1)) (hn : mr q = none) (hc : cu ≤ (mR q).cells ∧ su ≤ (mR q).slots) : Gd q X pc ρ [] s R cu su (some (0, s)) := fun out e => by
  cases e
  exact Ev.vreturn hd hn hc.1 hc.2 ⟨by rw [hn]; rfl, rfl⟩
end GR
