/-! ===== Int32 by its bits: bt x i ===== -/
def bt (x : Int32) (i : Nat) : Bool := x.toBitVec.getLsbD i
theorem b_ext {x y : Int32} (h : ∀ i, i < 32 → bt x i = bt y i) : x = y := Int32.toBitVec_inj.mp (BitVec.eq_of_getLsbD_eq (fun i hi => h i hi))
theorem b_or (x y : Int32) (i : Nat) : bt (x ||| y) i = (bt x i || bt y i) := by unfold bt; rw [Int32.toBitVec_or, BitVec.getLsbD_or]
theorem b_and (x y : Int32) (i : Nat) : bt (x &&& y) i = (bt x i && bt y i) := by unfold bt; rw [Int32.toBitVec_and, BitVec.getLsbD_and]
theorem b_xor (x y : Int32) (i : Nat) : bt (x ^^^ y) i = (bt x i ^^ bt y i) := by unfold bt; rw [Int32.toBitVec_xor, BitVec.getLsbD_xor]
theorem b_big {x : Int32} {i : Nat} (h : 32 ≤ i) : bt x i = false := BitVec.getLsbD_of_ge _ _ h
theorem b_255 (i : Nat) : bt 255 i = decide (i < 8) := by
  rcases Nat.lt_or_ge i 32 with h | h
  · exact (by decide +kernel : ∀ i, i < 32 → bt 255 i = decide (i < 8)) i h
  · rw [b_big h, decide_eq_false (by omega)]
theorem b_65535 (i : Nat) : bt 65535 i = decide (i < 16) := by
  rcases Nat.lt_or_ge i 32 with h | h
  · exact (by decide +kernel : ∀ i, i < 32 → bt 65535 i = decide (i < 16)) i h
  · rw [b_big h, decide_eq_false (by omega)]
theorem b_m1 : ∀ i, i < 32 → bt (-1) i = true := by decide +kernel
theorem b_0 (i : Nat) : bt 0 i = false := BitVec.getLsbD_zero
theorem s_l : ∀ n, n < 32 → ((nI n &&& 31).toBitVec.smod 32).toNat = n := by decide +kernel
theorem s_u : ∀ n, n < 32 → (((nI n).toUInt32 &&& Int32.toUInt32 31).toBitVec % 32).toNat = n := by decide +kernel
theorem b_shl (n : Nat) (hn : n < 32) (x : Int32) {i : Nat} (hi : i < 32) : bt (x <<< (nI n &&& 31)) i = (decide (n ≤ i) && bt x (i - n)) := by
  unfold bt
  rw [Int32.toBitVec_shiftLeft]
  show (x.toBitVec <<< ((nI n &&& 31).toBitVec.smod 32).toNat).getLsbD i = _
  rw [s_l n hn, BitVec.getLsbD_shiftLeft]
  rcases Nat.lt_or_ge i n with h | h
  · simp [h, Nat.not_le.mpr h]
  · simp [hi, h, Nat.not_lt.mpr h]
theorem b_ushr (n : Nat) (hn : n < 32) (x : Int32) (i : Nat) : bt ((x.toUInt32 >>> ((nI n).toUInt32 &&& Int32.toUInt32 31)).toInt32) i = bt x (n + i) := by
  show (x.toUInt32 >>> ((nI n).toUInt32 &&& Int32.toUInt32 31)).toBitVec.getLsbD i = x.toUInt32.toBitVec.getLsbD (n + i)
  rw [UInt32.toBitVec_shiftRight]
  show (x.toUInt32.toBitVec >>> (((nI n).toUInt32 &&& Int32.toUInt32 31).toBitVec % 32).toNat).getLsbD i = _
  rw [s_u n hn, BitVec.getLsbD_ushiftRight]
theorem b_sshr (n : Nat) (hn : n < 32) (x : Int32) {i : Nat} (hi : i < 32) : bt (x >>> (nI n &&& 31)) i = if n + i < 32 then bt x (n + i) else bt x 31 := by
  unfold bt
  rw [Int32.toBitVec_shiftRight]
  show (x.toBitVec.sshiftRight ((nI n &&& 31).toBitVec.smod 32).toNat).getLsbD i = _
  rw [s_l n hn, BitVec.getLsbD_sshiftRight, BitVec.msb_eq_getLsbD_last]
  simp [hi]
/-! numbers -/
theorem ix_nI {k : Nat} (h : k < 2147483648) : ix (nI k) = k := nI_clamp h
theorem inb_nI {k n : Nat} (h : k < n) (hn : n < 2147483648) : inb (nI k) n = true := by
  have h1 : ¬ nI k < 0 := nI_pos (by omega)
  have h2 : ix (nI k) < n := by rw [ix_nI (by omega)]; exact h
  simp [inb, h1, h2]
theorem nI_of_nn {x : Int32} (h0 : ¬ x < 0) : ∃ k, k < 2147483648 ∧ x = nI k := by
  have h1 : ¬ x.toInt < 0 := fun h => h0 (by rw [Int32.lt_iff_toInt_lt, Int32.toInt_zero]; exact h)
  have h2 := Int32.toInt_lt x
  refine ⟨x.toInt.toNat, by omega, ?_⟩
  refine Int32.toInt_inj.mp ?_
  rw [nI_toInt (by omega)]
  omega
theorem nI_of_lt {x : Int32} {n : Nat} (hn : n < 2147483648) (h0 : ¬ x < 0) (h1 : ¬ nI n ≤ x) : ∃ k, k < n ∧ x = nI k := by
  obtain ⟨k, hk, rfl⟩ := nI_of_nn h0
  rw [nI_leI hn hk] at h1
  exact ⟨k, by omega, rfl⟩
theorem nI_inj {a b : Nat} (ha : a < 2147483648) (hb : b < 2147483648) (h : nI a = nI b) : a = b := (nI_eq ha hb).mp h
theorem wr_s (s : Sg) (c k : Nat) (v : Int32) : wr s c k v c k = v := by simp [wr, upd]
theorem wr_k (s : Sg) (c : Nat) {k j : Nat} (v : Int32) (h : j ≠ k) : wr s c k v c j = s c j := by simp [wr, upd, h]
theorem wr_c (s : Sg) {c c' : Nat} (k : Nat) (v : Int32) (h : c' ≠ c) : wr s c k v c' = s c' := by simp [wr, h]
theorem wr_at (s : Sg) (c k : Nat) (v : Int32) (c' k' : Nat) : wr s c k v c' k' = if c' = c ∧ k' = k then v else s c' k' := by
  by_cases h : c' = c
  · subst h
    by_cases h2 : k' = k
    · subst h2; simp [wr_s]
    · simp [wr_k _ _ _ h2, h2]
  · rw [wr_c _ _ _ h]; simp [h]
theorem cpa_c (s : Sg) {c d c' : Nat} (sp dp n : Nat) (h : c' ≠ d) : cpa s c d sp dp n c' = s c' := by simp [cpa, h]
theorem bit_is (x : Int32) {n : Nat} (hn : n < 32) : (x >>> (nI n &&& 31)) &&& 1 = if bt x n = true then 1 else 0 := by
  have h1 : ∀ i, i < 32 → bt 1 i = decide (i = 0) := by decide +kernel
  refine b_ext (fun i hi => ?_)
  rw [b_and, b_sshr n hn x hi, h1 i hi]
  by_cases h0 : i = 0
  · subst h0
    have : bt (1 : Int32) 0 = true := by decide
    have : bt (0 : Int32) 0 = false := by decide
    cases hb : bt x n <;> simp_all
  · have e : ∀ b : Bool, bt (if b = true then (1 : Int32) else 0) i = false := by
      intro b
      cases b
      · exact b_0 i
      · show bt 1 i = false
        rw [h1 i hi]
        simp [h0]
    rw [e]
    simp [h0]
theorem bt_one {n i : Nat} (hn : n < 32) (hi : i < 32) : bt ((1 : Int32) <<< (nI n &&& 31)) i = decide (i = n) := by
  have h1 : ∀ i, i < 32 → bt 1 i = decide (i = 0) := by decide +kernel
  rw [b_shl n hn 1 hi, h1 (i - n) (by omega)]
  rcases Nat.lt_trichotomy i n with h | h | h
  · have : ¬ n ≤ i := by omega
    have : i ≠ n := by omega
    simp [*]
  · subst h; simp
  · have : n ≤ i := by omega
    have : i ≠ n := by omega
    have : i - n ≠ 0 := by omega
    simp [*]
theorem bt_or1 (x : Int32) {n i : Nat} (hn : n < 32) (hi : i < 32) : bt (x ||| ((1 : Int32) <<< (nI n &&& 31))) i = (bt x i || decide (i = n)) := by
  rw [b_or, bt_one hn hi]
theorem bt_andn (x : Int32) {n i : Nat} (hn : n < 32) (hi : i < 32) : bt (x &&& (((1 : Int32) <<< (nI n &&& 31)) ^^^ (-1))) i = (bt x i && !decide (i = n)) := by
  rw [b_and, b_xor, bt_one hn hi, b_m1 i hi]
  simp
/-! loops: from a state with I k one comes to E -/
theorem itr1_run {F : (Int32 → Sg → Ro) → Int32 → Sg → Ro} {N : Nat} {I : Nat → Int32 → Sg → Prop} {E : Ro → Prop}
    (hstep : ∀ (rec : Int32 → Sg → Ro) (k : Nat) (x1 : Int32) (s : Sg), k < N → I k x1 s → (∃ (y1 : Int32) (s' : Sg), I (k + 1) y1 s' ∧ F rec x1 s = rec y1 s') ∨ E (F rec x1 s))
    (hend : ∀ (rec : Int32 → Sg → Ro) (x1 : Int32) (s : Sg), I N x1 s → E (F rec x1 s)) : ∀ (d n k : Nat) (x1 : Int32) (s : Sg), k + d = N → d < n → I k x1 s → E (itr1 F n x1 s) := by
  intro d
  induction d with
  | zero =>
    intro n k x1 s h1 h2 hI
    obtain ⟨m, rfl⟩ : ∃ m, n = m + 1 := ⟨n - 1, by omega⟩
    obtain rfl : k = N := by omega
    exact hend _ x1 s hI
  | succ d ih =>
    intro n k x1 s h1 h2 hI
    obtain ⟨m, rfl⟩ : ∃ m, n = m + 1 := ⟨n - 1, by omega⟩
    show E (F (itr1 F m) x1 s)
    rcases hstep (itr1 F m) k x1 s (by omega) hI with ⟨y1, s', hI', e⟩ | h
    · rw [e]
      exact ih m (k + 1) y1 s' (by omega) (by omega) hI'
    · exact h
theorem itr2_run {F : (Int32 → Int32 → Sg → Ro) → Int32 → Int32 → Sg → Ro} {N : Nat} {I : Nat → Int32 → Int32 → Sg → Prop} {E : Ro → Prop}
    (hstep : ∀ (rec : Int32 → Int32 → Sg → Ro) (k : Nat) (x1 x2 : Int32) (s : Sg), k < N → I k x1 x2 s → (∃ (y1 y2 : Int32) (s' : Sg), I (k + 1) y1 y2 s' ∧ F rec x1 x2 s = rec y1 y2 s') ∨ E (F rec x1 x2 s))
    (hend : ∀ (rec : Int32 → Int32 → Sg → Ro) (x1 x2 : Int32) (s : Sg), I N x1 x2 s → E (F rec x1 x2 s)) : ∀ (d n k : Nat) (x1 x2 : Int32) (s : Sg), k + d = N → d < n → I k x1 x2 s → E (itr2 F n x1 x2 s) := by
  intro d
  induction d with
  | zero =>
    intro n k x1 x2 s h1 h2 hI
    obtain ⟨m, rfl⟩ : ∃ m, n = m + 1 := ⟨n - 1, by omega⟩
    obtain rfl : k = N := by omega
    exact hend _ x1 x2 s hI
  | succ d ih =>
    intro n k x1 x2 s h1 h2 hI
    obtain ⟨m, rfl⟩ : ∃ m, n = m + 1 := ⟨n - 1, by omega⟩
    show E (F (itr2 F m) x1 x2 s)
    rcases hstep (itr2 F m) k x1 x2 s (by omega) hI with ⟨y1, y2, s', hI', e⟩ | h
    · rw [e]
      exact ih m (k + 1) y1 y2 s' (by omega) (by omega) hI'
    · exact h
theorem itr3_run {F : (Int32 → Int32 → Int32 → Sg → Ro) → Int32 → Int32 → Int32 → Sg → Ro} {N : Nat} {I : Nat → Int32 → Int32 → Int32 → Sg → Prop} {E : Ro → Prop}
    (hstep : ∀ (rec : Int32 → Int32 → Int32 → Sg → Ro) (k : Nat) (x1 x2 x3 : Int32) (s : Sg), k < N → I k x1 x2 x3 s → (∃ (y1 y2 y3 : Int32) (s' : Sg), I (k + 1) y1 y2 y3 s' ∧ F rec x1 x2 x3 s = rec y1 y2 y3 s') ∨ E (F rec x1 x2 x3 s))
    (hend : ∀ (rec : Int32 → Int32 → Int32 → Sg → Ro) (x1 x2 x3 : Int32) (s : Sg), I N x1 x2 x3 s → E (F rec x1 x2 x3 s)) : ∀ (d n k : Nat) (x1 x2 x3 : Int32) (s : Sg), k + d = N → d < n → I k x1 x2 x3 s → E (itr3 F n x1 x2 x3 s) := by
  intro d
  induction d with
  | zero =>
    intro n k x1 x2 x3 s h1 h2 hI
    obtain ⟨m, rfl⟩ : ∃ m, n = m + 1 := ⟨n - 1, by omega⟩
    obtain rfl : k = N := by omega
    exact hend _ x1 x2 x3 s hI
  | succ d ih =>
    intro n k x1 x2 x3 s h1 h2 hI
    obtain ⟨m, rfl⟩ : ∃ m, n = m + 1 := ⟨n - 1, by omega⟩
    show E (F (itr3 F m) x1 x2 x3 s)
    rcases hstep (itr3 F m) k x1 x2 x3 s (by omega) hI with ⟨y1, y2, y3, s', hI', e⟩ | h
    · rw [e]
      exact ih m (k + 1) y1 y2 y3 s' (by omega) (by omega) hI'
    · exact h
theorem itr4_run {F : (Int32 → Int32 → Int32 → Int32 → Sg → Ro) → Int32 → Int32 → Int32 → Int32 → Sg → Ro} {N : Nat} {I : Nat → Int32 → Int32 → Int32 → Int32 → Sg → Prop} {E : Ro → Prop}
    (hstep : ∀ (rec : Int32 → Int32 → Int32 → Int32 → Sg → Ro) (k : Nat) (x1 x2 x3 x4 : Int32) (s : Sg), k < N → I k x1 x2 x3 x4 s → (∃ (y1 y2 y3 y4 : Int32) (s' : Sg), I (k + 1) y1 y2 y3 y4 s' ∧ F rec x1 x2 x3 x4 s = rec y1 y2 y3 y4 s') ∨ E (F rec x1 x2 x3 x4 s))
    (hend : ∀ (rec : Int32 → Int32 → Int32 → Int32 → Sg → Ro) (x1 x2 x3 x4 : Int32) (s : Sg), I N x1 x2 x3 x4 s → E (F rec x1 x2 x3 x4 s)) : ∀ (d n k : Nat) (x1 x2 x3 x4 : Int32) (s : Sg), k + d = N → d < n → I k x1 x2 x3 x4 s → E (itr4 F n x1 x2 x3 x4 s) := by
  intro d
  induction d with
  | zero =>
    intro n k x1 x2 x3 x4 s h1 h2 hI
    obtain ⟨m, rfl⟩ : ∃ m, n = m + 1 := ⟨n - 1, by omega⟩
    obtain rfl : k = N := by omega
    exact hend _ x1 x2 x3 x4 s hI
  | succ d ih =>
    intro n k x1 x2 x3 x4 s h1 h2 hI
    obtain ⟨m, rfl⟩ : ∃ m, n = m + 1 := ⟨n - 1, by omega⟩
    show E (F (itr4 F m) x1 x2 x3 x4 s)
    rcases hstep (itr4 F m) k x1 x2 x3 x4 s (by omega) hI with ⟨y1, y2, y3, y4, s', hI', e⟩ | h
    · rw [e]
      exact ih m (k + 1) y1 y2 y3 y4 s' (by omega) (by omega) hI'
    · exact h
theorem itr5_run {F : (Int32 → Int32 → Int32 → Int32 → Int32 → Sg → Ro) → Int32 → Int32 → Int32 → Int32 → Int32 → Sg → Ro} {N : Nat} {I : Nat → Int32 → Int32 → Int32 → Int32 → Int32 → Sg → Prop} {E : Ro → Prop}
    (hstep : ∀ (rec : Int32 → Int32 → Int32 → Int32 → Int32 → Sg → Ro) (k : Nat) (x1 x2 x3 x4 x5 : Int32) (s : Sg), k < N → I k x1 x2 x3 x4 x5 s → (∃ (y1 y2 y3 y4 y5 : Int32) (s' : Sg), I (k + 1) y1 y2 y3 y4 y5 s' ∧ F rec x1 x2 x3 x4 x5 s = rec y1 y2 y3 y4 y5 s') ∨ E (F rec x1 x2 x3 x4 x5 s))
    (hend : ∀ (rec : Int32 → Int32 → Int32 → Int32 → Int32 → Sg → Ro) (x1 x2 x3 x4 x5 : Int32) (s : Sg), I N x1 x2 x3 x4 x5 s → E (F rec x1 x2 x3 x4 x5 s)) : ∀ (d n k : Nat) (x1 x2 x3 x4 x5 : Int32) (s : Sg), k + d = N → d < n → I k x1 x2 x3 x4 x5 s → E (itr5 F n x1 x2 x3 x4 x5 s) := by
  intro d
  induction d with
  | zero =>
    intro n k x1 x2 x3 x4 x5 s h1 h2 hI
    obtain ⟨m, rfl⟩ : ∃ m, n = m + 1 := ⟨n - 1, by omega⟩
    obtain rfl : k = N := by omega
    exact hend _ x1 x2 x3 x4 x5 s hI
  | succ d ih =>
    intro n k x1 x2 x3 x4 x5 s h1 h2 hI
    obtain ⟨m, rfl⟩ : ∃ m, n = m + 1 := ⟨n - 1, by omega⟩
    show E (F (itr5 F m) x1 x2 x3 x4 x5 s)
    rcases hstep (itr5 F m) k x1 x2 x3 x4 x5 s (by omega) hI with ⟨y1, y2, y3, y4, y5, s', hI', e⟩ | h
    · rw [e]
      exact ih m (k + 1) y1 y2 y3 y4 y5 s' (by omega) (by omega) hI'
    · exact h
theorem itr6_run {F : (Int32 → Int32 → Int32 → Int32 → Int32 → Int32 → Sg → Ro) → Int32 → Int32 → Int32 → Int32 → Int32 → Int32 → Sg → Ro} {N : Nat} {I : Nat → Int32 → Int32 → Int32 → Int32 → Int32 → Int32 → Sg → Prop} {E : Ro → Prop}
    (hstep : ∀ (rec : Int32 → Int32 → Int32 → Int32 → Int32 → Int32 → Sg → Ro) (k : Nat) (x1 x2 x3 x4 x5 x6 : Int32) (s : Sg), k < N → I k x1 x2 x3 x4 x5 x6 s → (∃ (y1 y2 y3 y4 y5 y6 : Int32) (s' : Sg), I (k + 1) y1 y2 y3 y4 y5 y6 s' ∧ F rec x1 x2 x3 x4 x5 x6 s = rec y1 y2 y3 y4 y5 y6 s') ∨ E (F rec x1 x2 x3 x4 x5 x6 s))
    (hend : ∀ (rec : Int32 → Int32 → Int32 → Int32 → Int32 → Int32 → Sg → Ro) (x1 x2 x3 x4 x5 x6 : Int32) (s : Sg), I N x1 x2 x3 x4 x5 x6 s → E (F rec x1 x2 x3 x4 x5 x6 s)) : ∀ (d n k : Nat) (x1 x2 x3 x4 x5 x6 : Int32) (s : Sg), k + d = N → d < n → I k x1 x2 x3 x4 x5 x6 s → E (itr6 F n x1 x2 x3 x4 x5 x6 s) := by
  intro d
  induction d with
  | zero =>
    intro n k x1 x2 x3 x4 x5 x6 s h1 h2 hI
    obtain ⟨m, rfl⟩ : ∃ m, n = m + 1 := ⟨n - 1, by omega⟩
    obtain rfl : k = N := by omega
    exact hend _ x1 x2 x3 x4 x5 x6 s hI
  | succ d ih =>
    intro n k x1 x2 x3 x4 x5 x6 s h1 h2 hI
    obtain ⟨m, rfl⟩ : ∃ m, n = m + 1 := ⟨n - 1, by omega⟩
    show E (F (itr6 F m) x1 x2 x3 x4 x5 x6 s)
    rcases hstep (itr6 F m) k x1 x2 x3 x4 x5 x6 s (by omega) hI with ⟨y1, y2, y3, y4, y5, y6, s', hI', e⟩ | h
    · rw [e]
      exact ih m (k + 1) y1 y2 y3 y4 y5 y6 s' (by omega) (by omega) hI'
    · exact h
theorem itr7_run {F : (Int32 → Int32 → Int32 → Int32 → Int32 → Int32 → Int32 → Sg → Ro) → Int32 → Int32 → Int32 → Int32 → Int32 → Int32 → Int32 → Sg → Ro} {N : Nat} {I : Nat → Int32 → Int32 → Int32 → Int32 → Int32 → Int32 → Int32 → Sg → Prop} {E : Ro → Prop}
    (hstep : ∀ (rec : Int32 → Int32 → Int32 → Int32 → Int32 → Int32 → Int32 → Sg → Ro) (k : Nat) (x1 x2 x3 x4 x5 x6 x7 : Int32) (s : Sg), k < N → I k x1 x2 x3 x4 x5 x6 x7 s → (∃ (y1 y2 y3 y4 y5 y6 y7 : Int32) (s' : Sg), I (k + 1) y1 y2 y3 y4 y5 y6 y7 s' ∧ F rec x1 x2 x3 x4 x5 x6 x7 s = rec y1 y2 y3 y4 y5 y6 y7 s') ∨ E (F rec x1 x2 x3 x4 x5 x6 x7 s))
    (hend : ∀ (rec : Int32 → Int32 → Int32 → Int32 → Int32 → Int32 → Int32 → Sg → Ro) (x1 x2 x3 x4 x5 x6 x7 : Int32) (s : Sg), I N x1 x2 x3 x4 x5 x6 x7 s → E (F rec x1 x2 x3 x4 x5 x6 x7 s)) : ∀ (d n k : Nat) (x1 x2 x3 x4 x5 x6 x7 : Int32) (s : Sg), k + d = N → d < n → I k x1 x2 x3 x4 x5 x6 x7 s → E (itr7 F n x1 x2 x3 x4 x5 x6 x7 s) := by
  intro d
  induction d with
  | zero =>
    intro n k x1 x2 x3 x4 x5 x6 x7 s h1 h2 hI
    obtain ⟨m, rfl⟩ : ∃ m, n = m + 1 := ⟨n - 1, by omega⟩
    obtain rfl : k = N := by omega
    exact hend _ x1 x2 x3 x4 x5 x6 x7 s hI
  | succ d ih =>
    intro n k x1 x2 x3 x4 x5 x6 x7 s h1 h2 hI
    obtain ⟨m, rfl⟩ : ∃ m, n = m + 1 := ⟨n - 1, by omega⟩
    show E (F (itr7 F m) x1 x2 x3 x4 x5 x6 x7 s)
    rcases hstep (itr7 F m) k x1 x2 x3 x4 x5 x6 x7 s (by omega) hI with ⟨y1, y2, y3, y4, y5, y6, y7, s', hI', e⟩ | h
    · rw [e]
      exact ih m (k + 1) y1 y2 y3 y4 y5 y6 y7 s' (by omega) (by omega) hI'
    · exact h
theorem itr8_run {F : (Int32 → Int32 → Int32 → Int32 → Int32 → Int32 → Int32 → Int32 → Sg → Ro) → Int32 → Int32 → Int32 → Int32 → Int32 → Int32 → Int32 → Int32 → Sg → Ro} {N : Nat} {I : Nat → Int32 → Int32 → Int32 → Int32 → Int32 → Int32 → Int32 → Int32 → Sg → Prop} {E : Ro → Prop}
    (hstep : ∀ (rec : Int32 → Int32 → Int32 → Int32 → Int32 → Int32 → Int32 → Int32 → Sg → Ro) (k : Nat) (x1 x2 x3 x4 x5 x6 x7 x8 : Int32) (s : Sg), k < N → I k x1 x2 x3 x4 x5 x6 x7 x8 s → (∃ (y1 y2 y3 y4 y5 y6 y7 y8 : Int32) (s' : Sg), I (k + 1) y1 y2 y3 y4 y5 y6 y7 y8 s' ∧ F rec x1 x2 x3 x4 x5 x6 x7 x8 s = rec y1 y2 y3 y4 y5 y6 y7 y8 s') ∨ E (F rec x1 x2 x3 x4 x5 x6 x7 x8 s))
    (hend : ∀ (rec : Int32 → Int32 → Int32 → Int32 → Int32 → Int32 → Int32 → Int32 → Sg → Ro) (x1 x2 x3 x4 x5 x6 x7 x8 : Int32) (s : Sg), I N x1 x2 x3 x4 x5 x6 x7 x8 s → E (F rec x1 x2 x3 x4 x5 x6 x7 x8 s)) : ∀ (d n k : Nat) (x1 x2 x3 x4 x5 x6 x7 x8 : Int32) (s : Sg), k + d = N → d < n → I k x1 x2 x3 x4 x5 x6 x7 x8 s → E (itr8 F n x1 x2 x3 x4 x5 x6 x7 x8 s) := by
  intro d
  induction d with
  | zero =>
    intro n k x1 x2 x3 x4 x5 x6 x7 x8 s h1 h2 hI
    obtain ⟨m, rfl⟩ : ∃ m, n = m + 1 := ⟨n - 1, by omega⟩
    obtain rfl : k = N := by omega
    exact hend _ x1 x2 x3 x4 x5 x6 x7 x8 s hI
  | succ d ih =>
    intro n k x1 x2 x3 x4 x5 x6 x7 x8 s h1 h2 hI
    obtain ⟨m, rfl⟩ : ∃ m, n = m + 1 := ⟨n - 1, by omega⟩
    show E (F (itr8 F m) x1 x2 x3 x4 x5 x6 x7 x8 s)
    rcases hstep (itr8 F m) k x1 x2 x3 x4 x5 x6 x7 x8 s (by omega) hI with ⟨y1, y2, y3, y4, y5, y6, y7, y8, s', hI', e⟩ | h
    · rw [e]
      exact ih m (k + 1) y1 y2 y3 y4 y5 y6 y7 y8 s' (by omega) (by omega) hI'
    · exact h
