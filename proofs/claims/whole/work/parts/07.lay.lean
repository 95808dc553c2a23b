/-! the state holds int fields (by cell and place) and arrays (by cell and index) -/
abbrev Sg : Type := Nat → Nat → Int32
def wr (s : Sg) (c k : Nat) (v : Int32) : Sg := fun c' => if c' = c then upd (s c) k v else s c'
def cpa (s : Sg) (c d sp dp n : Nat) : Sg := fun c' => if c' = d then va_cpy (s c) (s d) sp dp n else s c'
/-- the heap: every cell that the two objects hold, then what else there is -/
def HX (s : Sg) (R : List AC) : List AC :=
  ao 0 [vr 1, vr 3, vr 8, vr 16, vr 21, vr 23, vr 26, vr 29, vr 30, vi (s 0 9), vi (s 0 10)] ::
  ao 1 [vi (s 1 0), vi (s 1 1), vi (s 1 2), vr 2] ::
  ai .boolean 10 (s 2) ::
  ao 2 [vi (s 3 0), vr 4, vr 5, vr 6, vr 7] ::
  ai .int 60 (s 4) ::
  ai .int 60 (s 5) ::
  ai .int 60 (s 6) ::
  ai .boolean 60 (s 7) ::
  ao 3 [vi (s 8 0), vr 9, vr 10, vr 11, vr 12, vr 13, vr 14, vr 15] ::
  ai .int 40 (s 9) ::
  ai .int 40 (s 10) ::
  ai .int 40 (s 11) ::
  ai .int 40 (s 12) ::
  ai .boolean 40 (s 13) ::
  ai .boolean 40 (s 14) ::
  ai .boolean 40 (s 15) ::
  ao 4 [vi (s 16 0), vr 17, vr 18, vr 19, vr 20] ::
  ai .int 60 (s 17) ::
  ai .int 60 (s 18) ::
  ai .int 60 (s 19) ::
  ai .int 60 (s 20) ::
  ao 5 [vr 1, vr 3, vr 8, vr 16, vi (s 21 4), vi (s 21 5), vi (s 21 6), vi (s 21 7), vi (s 21 8), vi (s 21 9), vi (s 21 10), vr 22] ::
  ai .int 40 (s 22) ::
  ao 6 [vr 21, vr 24, vr 25, vi (s 23 3)] ::
  ai .int 220 (s 24) ::
  ai .int 220 (s 25) ::
  ao 6 [vr 21, vr 27, vr 28, vi (s 26 3)] ::
  ai .int 220 (s 27) ::
  ai .int 220 (s 28) ::
  ao 7 [vr 21, vr 23] ::
  ai .int 120 (s 30) ::
  ao 8 [vi (s 31 0), vi (s 31 1), vi (s 31 2), vi (s 31 3), vi (s 31 4), vi (s 31 5), vr 32, vr 33, vr 34, vr 35, vr 36, vr 37, vr 38, vr 39, vr 40, vr 41, vr 42, vr 43, vr 44, vr 45, vr 46, vr 47, vr 48, vr 49, vr 50, vi (s 31 25), vi (s 31 26), vi (s 31 27), vi (s 31 28), vi (s 31 29), vi (s 31 30), vr 51, vi (s 31 32), vi (s 31 33), vr 52, vr 53, vr 54, vr 55, vr 56, vr 57, vi (s 31 40), vr 58, vi (s 31 42), vr 59, vr 60, vi (s 31 45)] ::
  ai .boolean 10 (s 32) ::
  ai .boolean 10 (s 33) ::
  ai .boolean 10 (s 34) ::
  ai .int 60 (s 35) ::
  ai .int 60 (s 36) ::
  ai .int 60 (s 37) ::
  ai .boolean 60 (s 38) ::
  ai .int 40 (s 39) ::
  ai .int 40 (s 40) ::
  ai .int 40 (s 41) ::
  ai .boolean 40 (s 42) ::
  ai .boolean 40 (s 43) ::
  ai .boolean 40 (s 44) ::
  ai .int 400 (s 45) ::
  ai .int 400 (s 46) ::
  ai .int 60 (s 47) ::
  ai .int 60 (s 48) ::
  ai .int 60 (s 49) ::
  ai .int 60 (s 50) ::
  ai .boolean 10 (s 51) ::
  ai .int 20 (s 52) ::
  ai .int 80 (s 53) ::
  ai .int 120 (s 54) ::
  ai .int 20 (s 55) ::
  ai .int 80 (s 56) ::
  ai .int 120 (s 57) ::
  ai .int 120 (s 58) ::
  ai .int 400 (s 59) ::
  ai .int 400 (s 60) :: R
theorem HX_0 (s : Sg) (R : List AC) : (HX s R)[0]? = some (ao 0 [vr 1, vr 3, vr 8, vr 16, vr 21, vr 23, vr 26, vr 29, vr 30, vi (s 0 9), vi (s 0 10)]) := rfl
theorem HX_1 (s : Sg) (R : List AC) : (HX s R)[1]? = some (ao 1 [vi (s 1 0), vi (s 1 1), vi (s 1 2), vr 2]) := rfl
theorem HX_2 (s : Sg) (R : List AC) : (HX s R)[2]? = some (ai .boolean 10 (s 2)) := rfl
theorem HX_3 (s : Sg) (R : List AC) : (HX s R)[3]? = some (ao 2 [vi (s 3 0), vr 4, vr 5, vr 6, vr 7]) := rfl
theorem HX_4 (s : Sg) (R : List AC) : (HX s R)[4]? = some (ai .int 60 (s 4)) := rfl
theorem HX_5 (s : Sg) (R : List AC) : (HX s R)[5]? = some (ai .int 60 (s 5)) := rfl
theorem HX_6 (s : Sg) (R : List AC) : (HX s R)[6]? = some (ai .int 60 (s 6)) := rfl
theorem HX_7 (s : Sg) (R : List AC) : (HX s R)[7]? = some (ai .boolean 60 (s 7)) := rfl
theorem HX_8 (s : Sg) (R : List AC) : (HX s R)[8]? = some (ao 3 [vi (s 8 0), vr 9, vr 10, vr 11, vr 12, vr 13, vr 14, vr 15]) := rfl
theorem HX_9 (s : Sg) (R : List AC) : (HX s R)[9]? = some (ai .int 40 (s 9)) := rfl
theorem HX_10 (s : Sg) (R : List AC) : (HX s R)[10]? = some (ai .int 40 (s 10)) := rfl
theorem HX_11 (s : Sg) (R : List AC) : (HX s R)[11]? = some (ai .int 40 (s 11)) := rfl
theorem HX_12 (s : Sg) (R : List AC) : (HX s R)[12]? = some (ai .int 40 (s 12)) := rfl
theorem HX_13 (s : Sg) (R : List AC) : (HX s R)[13]? = some (ai .boolean 40 (s 13)) := rfl
theorem HX_14 (s : Sg) (R : List AC) : (HX s R)[14]? = some (ai .boolean 40 (s 14)) := rfl
theorem HX_15 (s : Sg) (R : List AC) : (HX s R)[15]? = some (ai .boolean 40 (s 15)) := rfl
theorem HX_16 (s : Sg) (R : List AC) : (HX s R)[16]? = some (ao 4 [vi (s 16 0), vr 17, vr 18, vr 19, vr 20]) := rfl
theorem HX_17 (s : Sg) (R : List AC) : (HX s R)[17]? = some (ai .int 60 (s 17)) := rfl
theorem HX_18 (s : Sg) (R : List AC) : (HX s R)[18]? = some (ai .int 60 (s 18)) := rfl
theorem HX_19 (s : Sg) (R : List AC) : (HX s R)[19]? = some (ai .int 60 (s 19)) := rfl
theorem HX_20 (s : Sg) (R : List AC) : (HX s R)[20]? = some (ai .int 60 (s 20)) := rfl
theorem HX_21 (s : Sg) (R : List AC) : (HX s R)[21]? = some (ao 5 [vr 1, vr 3, vr 8, vr 16, vi (s 21 4), vi (s 21 5), vi (s 21 6), vi (s 21 7), vi (s 21 8), vi (s 21 9), vi (s 21 10), vr 22]) := rfl
theorem HX_22 (s : Sg) (R : List AC) : (HX s R)[22]? = some (ai .int 40 (s 22)) := rfl
theorem HX_23 (s : Sg) (R : List AC) : (HX s R)[23]? = some (ao 6 [vr 21, vr 24, vr 25, vi (s 23 3)]) := rfl
theorem HX_24 (s : Sg) (R : List AC) : (HX s R)[24]? = some (ai .int 220 (s 24)) := rfl
theorem HX_25 (s : Sg) (R : List AC) : (HX s R)[25]? = some (ai .int 220 (s 25)) := rfl
theorem HX_26 (s : Sg) (R : List AC) : (HX s R)[26]? = some (ao 6 [vr 21, vr 27, vr 28, vi (s 26 3)]) := rfl
theorem HX_27 (s : Sg) (R : List AC) : (HX s R)[27]? = some (ai .int 220 (s 27)) := rfl
theorem HX_28 (s : Sg) (R : List AC) : (HX s R)[28]? = some (ai .int 220 (s 28)) := rfl
theorem HX_29 (s : Sg) (R : List AC) : (HX s R)[29]? = some (ao 7 [vr 21, vr 23]) := rfl
theorem HX_30 (s : Sg) (R : List AC) : (HX s R)[30]? = some (ai .int 120 (s 30)) := rfl
theorem HX_31 (s : Sg) (R : List AC) : (HX s R)[31]? = some (ao 8 [vi (s 31 0), vi (s 31 1), vi (s 31 2), vi (s 31 3), vi (s 31 4), vi (s 31 5), vr 32, vr 33, vr 34, vr 35, vr 36, vr 37, vr 38, vr 39, vr 40, vr 41, vr 42, vr 43, vr 44, vr 45, vr 46, vr 47, vr 48, vr 49, vr 50, vi (s 31 25), vi (s 31 26), vi (s 31 27), vi (s 31 28), vi (s 31 29), vi (s 31 30), vr 51, vi (s 31 32), vi (s 31 33), vr 52, vr 53, vr 54, vr 55, vr 56, vr 57, vi (s 31 40), vr 58, vi (s 31 42), vr 59, vr 60, vi (s 31 45)]) := rfl
theorem HX_32 (s : Sg) (R : List AC) : (HX s R)[32]? = some (ai .boolean 10 (s 32)) := rfl
theorem HX_33 (s : Sg) (R : List AC) : (HX s R)[33]? = some (ai .boolean 10 (s 33)) := rfl
theorem HX_34 (s : Sg) (R : List AC) : (HX s R)[34]? = some (ai .boolean 10 (s 34)) := rfl
theorem HX_35 (s : Sg) (R : List AC) : (HX s R)[35]? = some (ai .int 60 (s 35)) := rfl
theorem HX_36 (s : Sg) (R : List AC) : (HX s R)[36]? = some (ai .int 60 (s 36)) := rfl
theorem HX_37 (s : Sg) (R : List AC) : (HX s R)[37]? = some (ai .int 60 (s 37)) := rfl
theorem HX_38 (s : Sg) (R : List AC) : (HX s R)[38]? = some (ai .boolean 60 (s 38)) := rfl
theorem HX_39 (s : Sg) (R : List AC) : (HX s R)[39]? = some (ai .int 40 (s 39)) := rfl
theorem HX_40 (s : Sg) (R : List AC) : (HX s R)[40]? = some (ai .int 40 (s 40)) := rfl
theorem HX_41 (s : Sg) (R : List AC) : (HX s R)[41]? = some (ai .int 40 (s 41)) := rfl
theorem HX_42 (s : Sg) (R : List AC) : (HX s R)[42]? = some (ai .boolean 40 (s 42)) := rfl
theorem HX_43 (s : Sg) (R : List AC) : (HX s R)[43]? = some (ai .boolean 40 (s 43)) := rfl
theorem HX_44 (s : Sg) (R : List AC) : (HX s R)[44]? = some (ai .boolean 40 (s 44)) := rfl
theorem HX_45 (s : Sg) (R : List AC) : (HX s R)[45]? = some (ai .int 400 (s 45)) := rfl
theorem HX_46 (s : Sg) (R : List AC) : (HX s R)[46]? = some (ai .int 400 (s 46)) := rfl
theorem HX_47 (s : Sg) (R : List AC) : (HX s R)[47]? = some (ai .int 60 (s 47)) := rfl
theorem HX_48 (s : Sg) (R : List AC) : (HX s R)[48]? = some (ai .int 60 (s 48)) := rfl
theorem HX_49 (s : Sg) (R : List AC) : (HX s R)[49]? = some (ai .int 60 (s 49)) := rfl
theorem HX_50 (s : Sg) (R : List AC) : (HX s R)[50]? = some (ai .int 60 (s 50)) := rfl
theorem HX_51 (s : Sg) (R : List AC) : (HX s R)[51]? = some (ai .boolean 10 (s 51)) := rfl
theorem HX_52 (s : Sg) (R : List AC) : (HX s R)[52]? = some (ai .int 20 (s 52)) := rfl
theorem HX_53 (s : Sg) (R : List AC) : (HX s R)[53]? = some (ai .int 80 (s 53)) := rfl
theorem HX_54 (s : Sg) (R : List AC) : (HX s R)[54]? = some (ai .int 120 (s 54)) := rfl
theorem HX_55 (s : Sg) (R : List AC) : (HX s R)[55]? = some (ai .int 20 (s 55)) := rfl
theorem HX_56 (s : Sg) (R : List AC) : (HX s R)[56]? = some (ai .int 80 (s 56)) := rfl
theorem HX_57 (s : Sg) (R : List AC) : (HX s R)[57]? = some (ai .int 120 (s 57)) := rfl
theorem HX_58 (s : Sg) (R : List AC) : (HX s R)[58]? = some (ai .int 120 (s 58)) := rfl
theorem HX_59 (s : Sg) (R : List AC) : (HX s R)[59]? = some (ai .int 400 (s 59)) := rfl
theorem HX_60 (s : Sg) (R : List AC) : (HX s R)[60]? = some (ai .int 400 (s 60)) := rfl
theorem HXf_0_9 (s : Sg) (R : List AC) (v : Int32) : (HX s R).set 0 (ao 0 ([vr 1, vr 3, vr 8, vr 16, vr 21, vr 23, vr 26, vr 29, vr 30, vi (s 0 9), vi (s 0 10)].set 9 (vi v))) = HX (wr s 0 9 v) R := rfl
theorem HXf_0_10 (s : Sg) (R : List AC) (v : Int32) : (HX s R).set 0 (ao 0 ([vr 1, vr 3, vr 8, vr 16, vr 21, vr 23, vr 26, vr 29, vr 30, vi (s 0 9), vi (s 0 10)].set 10 (vi v))) = HX (wr s 0 10 v) R := rfl
theorem HXf_1_0 (s : Sg) (R : List AC) (v : Int32) : (HX s R).set 1 (ao 1 ([vi (s 1 0), vi (s 1 1), vi (s 1 2), vr 2].set 0 (vi v))) = HX (wr s 1 0 v) R := rfl
theorem HXf_1_1 (s : Sg) (R : List AC) (v : Int32) : (HX s R).set 1 (ao 1 ([vi (s 1 0), vi (s 1 1), vi (s 1 2), vr 2].set 1 (vi v))) = HX (wr s 1 1 v) R := rfl
theorem HXf_1_2 (s : Sg) (R : List AC) (v : Int32) : (HX s R).set 1 (ao 1 ([vi (s 1 0), vi (s 1 1), vi (s 1 2), vr 2].set 2 (vi v))) = HX (wr s 1 2 v) R := rfl
theorem HXa_2 (s : Sg) (R : List AC) (i : Nat) (v : Int32) : (HX s R).set 2 (ai .boolean 10 (upd (s 2) i v)) = HX (wr s 2 i v) R := rfl
theorem HXf_3_0 (s : Sg) (R : List AC) (v : Int32) : (HX s R).set 3 (ao 2 ([vi (s 3 0), vr 4, vr 5, vr 6, vr 7].set 0 (vi v))) = HX (wr s 3 0 v) R := rfl
theorem HXa_4 (s : Sg) (R : List AC) (i : Nat) (v : Int32) : (HX s R).set 4 (ai .int 60 (upd (s 4) i v)) = HX (wr s 4 i v) R := rfl
theorem HXa_5 (s : Sg) (R : List AC) (i : Nat) (v : Int32) : (HX s R).set 5 (ai .int 60 (upd (s 5) i v)) = HX (wr s 5 i v) R := rfl
theorem HXa_6 (s : Sg) (R : List AC) (i : Nat) (v : Int32) : (HX s R).set 6 (ai .int 60 (upd (s 6) i v)) = HX (wr s 6 i v) R := rfl
theorem HXa_7 (s : Sg) (R : List AC) (i : Nat) (v : Int32) : (HX s R).set 7 (ai .boolean 60 (upd (s 7) i v)) = HX (wr s 7 i v) R := rfl
theorem HXf_8_0 (s : Sg) (R : List AC) (v : Int32) : (HX s R).set 8 (ao 3 ([vi (s 8 0), vr 9, vr 10, vr 11, vr 12, vr 13, vr 14, vr 15].set 0 (vi v))) = HX (wr s 8 0 v) R := rfl
theorem HXa_9 (s : Sg) (R : List AC) (i : Nat) (v : Int32) : (HX s R).set 9 (ai .int 40 (upd (s 9) i v)) = HX (wr s 9 i v) R := rfl
theorem HXa_10 (s : Sg) (R : List AC) (i : Nat) (v : Int32) : (HX s R).set 10 (ai .int 40 (upd (s 10) i v)) = HX (wr s 10 i v) R := rfl
theorem HXa_11 (s : Sg) (R : List AC) (i : Nat) (v : Int32) : (HX s R).set 11 (ai .int 40 (upd (s 11) i v)) = HX (wr s 11 i v) R := rfl
theorem HXa_12 (s : Sg) (R : List AC) (i : Nat) (v : Int32) : (HX s R).set 12 (ai .int 40 (upd (s 12) i v)) = HX (wr s 12 i v) R := rfl
theorem HXa_13 (s : Sg) (R : List AC) (i : Nat) (v : Int32) : (HX s R).set 13 (ai .boolean 40 (upd (s 13) i v)) = HX (wr s 13 i v) R := rfl
theorem HXa_14 (s : Sg) (R : List AC) (i : Nat) (v : Int32) : (HX s R).set 14 (ai .boolean 40 (upd (s 14) i v)) = HX (wr s 14 i v) R := rfl
theorem HXa_15 (s : Sg) (R : List AC) (i : Nat) (v : Int32) : (HX s R).set 15 (ai .boolean 40 (upd (s 15) i v)) = HX (wr s 15 i v) R := rfl
theorem HXf_16_0 (s : Sg) (R : List AC) (v : Int32) : (HX s R).set 16 (ao 4 ([vi (s 16 0), vr 17, vr 18, vr 19, vr 20].set 0 (vi v))) = HX (wr s 16 0 v) R := rfl
theorem HXa_17 (s : Sg) (R : List AC) (i : Nat) (v : Int32) : (HX s R).set 17 (ai .int 60 (upd (s 17) i v)) = HX (wr s 17 i v) R := rfl
theorem HXa_18 (s : Sg) (R : List AC) (i : Nat) (v : Int32) : (HX s R).set 18 (ai .int 60 (upd (s 18) i v)) = HX (wr s 18 i v) R := rfl
theorem HXa_19 (s : Sg) (R : List AC) (i : Nat) (v : Int32) : (HX s R).set 19 (ai .int 60 (upd (s 19) i v)) = HX (wr s 19 i v) R := rfl
theorem HXa_20 (s : Sg) (R : List AC) (i : Nat) (v : Int32) : (HX s R).set 20 (ai .int 60 (upd (s 20) i v)) = HX (wr s 20 i v) R := rfl
theorem HXf_21_4 (s : Sg) (R : List AC) (v : Int32) : (HX s R).set 21 (ao 5 ([vr 1, vr 3, vr 8, vr 16, vi (s 21 4), vi (s 21 5), vi (s 21 6), vi (s 21 7), vi (s 21 8), vi (s 21 9), vi (s 21 10), vr 22].set 4 (vi v))) = HX (wr s 21 4 v) R := rfl
theorem HXf_21_5 (s : Sg) (R : List AC) (v : Int32) : (HX s R).set 21 (ao 5 ([vr 1, vr 3, vr 8, vr 16, vi (s 21 4), vi (s 21 5), vi (s 21 6), vi (s 21 7), vi (s 21 8), vi (s 21 9), vi (s 21 10), vr 22].set 5 (vi v))) = HX (wr s 21 5 v) R := rfl
theorem HXf_21_6 (s : Sg) (R : List AC) (v : Int32) : (HX s R).set 21 (ao 5 ([vr 1, vr 3, vr 8, vr 16, vi (s 21 4), vi (s 21 5), vi (s 21 6), vi (s 21 7), vi (s 21 8), vi (s 21 9), vi (s 21 10), vr 22].set 6 (vi v))) = HX (wr s 21 6 v) R := rfl
theorem HXf_21_7 (s : Sg) (R : List AC) (v : Int32) : (HX s R).set 21 (ao 5 ([vr 1, vr 3, vr 8, vr 16, vi (s 21 4), vi (s 21 5), vi (s 21 6), vi (s 21 7), vi (s 21 8), vi (s 21 9), vi (s 21 10), vr 22].set 7 (vi v))) = HX (wr s 21 7 v) R := rfl
theorem HXf_21_8 (s : Sg) (R : List AC) (v : Int32) : (HX s R).set 21 (ao 5 ([vr 1, vr 3, vr 8, vr 16, vi (s 21 4), vi (s 21 5), vi (s 21 6), vi (s 21 7), vi (s 21 8), vi (s 21 9), vi (s 21 10), vr 22].set 8 (vi v))) = HX (wr s 21 8 v) R := rfl
theorem HXf_21_9 (s : Sg) (R : List AC) (v : Int32) : (HX s R).set 21 (ao 5 ([vr 1, vr 3, vr 8, vr 16, vi (s 21 4), vi (s 21 5), vi (s 21 6), vi (s 21 7), vi (s 21 8), vi (s 21 9), vi (s 21 10), vr 22].set 9 (vi v))) = HX (wr s 21 9 v) R := rfl
theorem HXf_21_10 (s : Sg) (R : List AC) (v : Int32) : (HX s R).set 21 (ao 5 ([vr 1, vr 3, vr 8, vr 16, vi (s 21 4), vi (s 21 5), vi (s 21 6), vi (s 21 7), vi (s 21 8), vi (s 21 9), vi (s 21 10), vr 22].set 10 (vi v))) = HX (wr s 21 10 v) R := rfl
theorem HXa_22 (s : Sg) (R : List AC) (i : Nat) (v : Int32) : (HX s R).set 22 (ai .int 40 (upd (s 22) i v)) = HX (wr s 22 i v) R := rfl
theorem HXf_23_3 (s : Sg) (R : List AC) (v : Int32) : (HX s R).set 23 (ao 6 ([vr 21, vr 24, vr 25, vi (s 23 3)].set 3 (vi v))) = HX (wr s 23 3 v) R := rfl
theorem HXa_24 (s : Sg) (R : List AC) (i : Nat) (v : Int32) : (HX s R).set 24 (ai .int 220 (upd (s 24) i v)) = HX (wr s 24 i v) R := rfl
theorem HXa_25 (s : Sg) (R : List AC) (i : Nat) (v : Int32) : (HX s R).set 25 (ai .int 220 (upd (s 25) i v)) = HX (wr s 25 i v) R := rfl
theorem HXf_26_3 (s : Sg) (R : List AC) (v : Int32) : (HX s R).set 26 (ao 6 ([vr 21, vr 27, vr 28, vi (s 26 3)].set 3 (vi v))) = HX (wr s 26 3 v) R := rfl
theorem HXa_27 (s : Sg) (R : List AC) (i : Nat) (v : Int32) : (HX s R).set 27 (ai .int 220 (upd (s 27) i v)) = HX (wr s 27 i v) R := rfl
theorem HXa_28 (s : Sg) (R : List AC) (i : Nat) (v : Int32) : (HX s R).set 28 (ai .int 220 (upd (s 28) i v)) = HX (wr s 28 i v) R := rfl
theorem HXa_30 (s : Sg) (R : List AC) (i : Nat) (v : Int32) : (HX s R).set 30 (ai .int 120 (upd (s 30) i v)) = HX (wr s 30 i v) R := rfl
theorem HXf_31_0 (s : Sg) (R : List AC) (v : Int32) : (HX s R).set 31 (ao 8 ([vi (s 31 0), vi (s 31 1), vi (s 31 2), vi (s 31 3), vi (s 31 4), vi (s 31 5), vr 32, vr 33, vr 34, vr 35, vr 36, vr 37, vr 38, vr 39, vr 40, vr 41, vr 42, vr 43, vr 44, vr 45, vr 46, vr 47, vr 48, vr 49, vr 50, vi (s 31 25), vi (s 31 26), vi (s 31 27), vi (s 31 28), vi (s 31 29), vi (s 31 30), vr 51, vi (s 31 32), vi (s 31 33), vr 52, vr 53, vr 54, vr 55, vr 56, vr 57, vi (s 31 40), vr 58, vi (s 31 42), vr 59, vr 60, vi (s 31 45)].set 0 (vi v))) = HX (wr s 31 0 v) R := rfl
theorem HXf_31_1 (s : Sg) (R : List AC) (v : Int32) : (HX s R).set 31 (ao 8 ([vi (s 31 0), vi (s 31 1), vi (s 31 2), vi (s 31 3), vi (s 31 4), vi (s 31 5), vr 32, vr 33, vr 34, vr 35, vr 36, vr 37, vr 38, vr 39, vr 40, vr 41, vr 42, vr 43, vr 44, vr 45, vr 46, vr 47, vr 48, vr 49, vr 50, vi (s 31 25), vi (s 31 26), vi (s 31 27), vi (s 31 28), vi (s 31 29), vi (s 31 30), vr 51, vi (s 31 32), vi (s 31 33), vr 52, vr 53, vr 54, vr 55, vr 56, vr 57, vi (s 31 40), vr 58, vi (s 31 42), vr 59, vr 60, vi (s 31 45)].set 1 (vi v))) = HX (wr s 31 1 v) R := rfl
theorem HXf_31_2 (s : Sg) (R : List AC) (v : Int32) : (HX s R).set 31 (ao 8 ([vi (s 31 0), vi (s 31 1), vi (s 31 2), vi (s 31 3), vi (s 31 4), vi (s 31 5), vr 32, vr 33, vr 34, vr 35, vr 36, vr 37, vr 38, vr 39, vr 40, vr 41, vr 42, vr 43, vr 44, vr 45, vr 46, vr 47, vr 48, vr 49, vr 50, vi (s 31 25), vi (s 31 26), vi (s 31 27), vi (s 31 28), vi (s 31 29), vi (s 31 30), vr 51, vi (s 31 32), vi (s 31 33), vr 52, vr 53, vr 54, vr 55, vr 56, vr 57, vi (s 31 40), vr 58, vi (s 31 42), vr 59, vr 60, vi (s 31 45)].set 2 (vi v))) = HX (wr s 31 2 v) R := rfl
theorem HXf_31_3 (s : Sg) (R : List AC) (v : Int32) : (HX s R).set 31 (ao 8 ([vi (s 31 0), vi (s 31 1), vi (s 31 2), vi (s 31 3), vi (s 31 4), vi (s 31 5), vr 32, vr 33, vr 34, vr 35, vr 36, vr 37, vr 38, vr 39, vr 40, vr 41, vr 42, vr 43, vr 44, vr 45, vr 46, vr 47, vr 48, vr 49, vr 50, vi (s 31 25), vi (s 31 26), vi (s 31 27), vi (s 31 28), vi (s 31 29), vi (s 31 30), vr 51, vi (s 31 32), vi (s 31 33), vr 52, vr 53, vr 54, vr 55, vr 56, vr 57, vi (s 31 40), vr 58, vi (s 31 42), vr 59, vr 60, vi (s 31 45)].set 3 (vi v))) = HX (wr s 31 3 v) R := rfl
theorem HXf_31_4 (s : Sg) (R : List AC) (v : Int32) : (HX s R).set 31 (ao 8 ([vi (s 31 0), vi (s 31 1), vi (s 31 2), vi (s 31 3), vi (s 31 4), vi (s 31 5), vr 32, vr 33, vr 34, vr 35, vr 36, vr 37, vr 38, vr 39, vr 40, vr 41, vr 42, vr 43, vr 44, vr 45, vr 46, vr 47, vr 48, vr 49, vr 50, vi (s 31 25), vi (s 31 26), vi (s 31 27), vi (s 31 28), vi (s 31 29), vi (s 31 30), vr 51, vi (s 31 32), vi (s 31 33), vr 52, vr 53, vr 54, vr 55, vr 56, vr 57, vi (s 31 40), vr 58, vi (s 31 42), vr 59, vr 60, vi (s 31 45)].set 4 (vi v))) = HX (wr s 31 4 v) R := rfl
theorem HXf_31_5 (s : Sg) (R : List AC) (v : Int32) : (HX s R).set 31 (ao 8 ([vi (s 31 0), vi (s 31 1), vi (s 31 2), vi (s 31 3), vi (s 31 4), vi (s 31 5), vr 32, vr 33, vr 34, vr 35, vr 36, vr 37, vr 38, vr 39, vr 40, vr 41, vr 42, vr 43, vr 44, vr 45, vr 46, vr 47, vr 48, vr 49, vr 50, vi (s 31 25), vi (s 31 26), vi (s 31 27), vi (s 31 28), vi (s 31 29), vi (s 31 30), vr 51, vi (s 31 32), vi (s 31 33), vr 52, vr 53, vr 54, vr 55, vr 56, vr 57, vi (s 31 40), vr 58, vi (s 31 42), vr 59, vr 60, vi (s 31 45)].set 5 (vi v))) = HX (wr s 31 5 v) R := rfl
theorem HXf_31_25 (s : Sg) (R : List AC) (v : Int32) : (HX s R).set 31 (ao 8 ([vi (s 31 0), vi (s 31 1), vi (s 31 2), vi (s 31 3), vi (s 31 4), vi (s 31 5), vr 32, vr 33, vr 34, vr 35, vr 36, vr 37, vr 38, vr 39, vr 40, vr 41, vr 42, vr 43, vr 44, vr 45, vr 46, vr 47, vr 48, vr 49, vr 50, vi (s 31 25), vi (s 31 26), vi (s 31 27), vi (s 31 28), vi (s 31 29), vi (s 31 30), vr 51, vi (s 31 32), vi (s 31 33), vr 52, vr 53, vr 54, vr 55, vr 56, vr 57, vi (s 31 40), vr 58, vi (s 31 42), vr 59, vr 60, vi (s 31 45)].set 25 (vi v))) = HX (wr s 31 25 v) R := rfl
theorem HXf_31_26 (s : Sg) (R : List AC) (v : Int32) : (HX s R).set 31 (ao 8 ([vi (s 31 0), vi (s 31 1), vi (s 31 2), vi (s 31 3), vi (s 31 4), vi (s 31 5), vr 32, vr 33, vr 34, vr 35, vr 36, vr 37, vr 38, vr 39, vr 40, vr 41, vr 42, vr 43, vr 44, vr 45, vr 46, vr 47, vr 48, vr 49, vr 50, vi (s 31 25), vi (s 31 26), vi (s 31 27), vi (s 31 28), vi (s 31 29), vi (s 31 30), vr 51, vi (s 31 32), vi (s 31 33), vr 52, vr 53, vr 54, vr 55, vr 56, vr 57, vi (s 31 40), vr 58, vi (s 31 42), vr 59, vr 60, vi (s 31 45)].set 26 (vi v))) = HX (wr s 31 26 v) R := rfl
theorem HXf_31_27 (s : Sg) (R : List AC) (v : Int32) : (HX s R).set 31 (ao 8 ([vi (s 31 0), vi (s 31 1), vi (s 31 2), vi (s 31 3), vi (s 31 4), vi (s 31 5), vr 32, vr 33, vr 34, vr 35, vr 36, vr 37, vr 38, vr 39, vr 40, vr 41, vr 42, vr 43, vr 44, vr 45, vr 46, vr 47, vr 48, vr 49, vr 50, vi (s 31 25), vi (s 31 26), vi (s 31 27), vi (s 31 28), vi (s 31 29), vi (s 31 30), vr 51, vi (s 31 32), vi (s 31 33), vr 52, vr 53, vr 54, vr 55, vr 56, vr 57, vi (s 31 40), vr 58, vi (s 31 42), vr 59, vr 60, vi (s 31 45)].set 27 (vi v))) = HX (wr s 31 27 v) R := rfl
theorem HXf_31_28 (s : Sg) (R : List AC) (v : Int32) : (HX s R).set 31 (ao 8 ([vi (s 31 0), vi (s 31 1), vi (s 31 2), vi (s 31 3), vi (s 31 4), vi (s 31 5), vr 32, vr 33, vr 34, vr 35, vr 36, vr 37, vr 38, vr 39, vr 40, vr 41, vr 42, vr 43, vr 44, vr 45, vr 46, vr 47, vr 48, vr 49, vr 50, vi (s 31 25), vi (s 31 26), vi (s 31 27), vi (s 31 28), vi (s 31 29), vi (s 31 30), vr 51, vi (s 31 32), vi (s 31 33), vr 52, vr 53, vr 54, vr 55, vr 56, vr 57, vi (s 31 40), vr 58, vi (s 31 42), vr 59, vr 60, vi (s 31 45)].set 28 (vi v))) = HX (wr s 31 28 v) R := rfl
theorem HXf_31_29 (s : Sg) (R : List AC) (v : Int32) : (HX s R).set 31 (ao 8 ([vi (s 31 0), vi (s 31 1), vi (s 31 2), vi (s 31 3), vi (s 31 4), vi (s 31 5), vr 32, vr 33, vr 34, vr 35, vr 36, vr 37, vr 38, vr 39, vr 40, vr 41, vr 42, vr 43, vr 44, vr 45, vr 46, vr 47, vr 48, vr 49, vr 50, vi (s 31 25), vi (s 31 26), vi (s 31 27), vi (s 31 28), vi (s 31 29), vi (s 31 30), vr 51, vi (s 31 32), vi (s 31 33), vr 52, vr 53, vr 54, vr 55, vr 56, vr 57, vi (s 31 40), vr 58, vi (s 31 42), vr 59, vr 60, vi (s 31 45)].set 29 (vi v))) = HX (wr s 31 29 v) R := rfl
theorem HXf_31_30 (s : Sg) (R : List AC) (v : Int32) : (HX s R).set 31 (ao 8 ([vi (s 31 0), vi (s 31 1), vi (s 31 2), vi (s 31 3), vi (s 31 4), vi (s 31 5), vr 32, vr 33, vr 34, vr 35, vr 36, vr 37, vr 38, vr 39, vr 40, vr 41, vr 42, vr 43, vr 44, vr 45, vr 46, vr 47, vr 48, vr 49, vr 50, vi (s 31 25), vi (s 31 26), vi (s 31 27), vi (s 31 28), vi (s 31 29), vi (s 31 30), vr 51, vi (s 31 32), vi (s 31 33), vr 52, vr 53, vr 54, vr 55, vr 56, vr 57, vi (s 31 40), vr 58, vi (s 31 42), vr 59, vr 60, vi (s 31 45)].set 30 (vi v))) = HX (wr s 31 30 v) R := rfl
theorem HXf_31_32 (s : Sg) (R : List AC) (v : Int32) : (HX s R).set 31 (ao 8 ([vi (s 31 0), vi (s 31 1), vi (s 31 2), vi (s 31 3), vi (s 31 4), vi (s 31 5), vr 32, vr 33, vr 34, vr 35, vr 36, vr 37, vr 38, vr 39, vr 40, vr 41, vr 42, vr 43, vr 44, vr 45, vr 46, vr 47, vr 48, vr 49, vr 50, vi (s 31 25), vi (s 31 26), vi (s 31 27), vi (s 31 28), vi (s 31 29), vi (s 31 30), vr 51, vi (s 31 32), vi (s 31 33), vr 52, vr 53, vr 54, vr 55, vr 56, vr 57, vi (s 31 40), vr 58, vi (s 31 42), vr 59, vr 60, vi (s 31 45)].set 32 (vi v))) = HX (wr s 31 32 v) R := rfl
theorem HXf_31_33 (s : Sg) (R : List AC) (v : Int32) : (HX s R).set 31 (ao 8 ([vi (s 31 0), vi (s 31 1), vi (s 31 2), vi (s 31 3), vi (s 31 4), vi (s 31 5), vr 32, vr 33, vr 34, vr 35, vr 36, vr 37, vr 38, vr 39, vr 40, vr 41, vr 42, vr 43, vr 44, vr 45, vr 46, vr 47, vr 48, vr 49, vr 50, vi (s 31 25), vi (s 31 26), vi (s 31 27), vi (s 31 28), vi (s 31 29), vi (s 31 30), vr 51, vi (s 31 32), vi (s 31 33), vr 52, vr 53, vr 54, vr 55, vr 56, vr 57, vi (s 31 40), vr 58, vi (s 31 42), vr 59, vr 60, vi (s 31 45)].set 33 (vi v))) = HX (wr s 31 33 v) R := rfl
theorem HXf_31_40 (s : Sg) (R : List AC) (v : Int32) : (HX s R).set 31 (ao 8 ([vi (s 31 0), vi (s 31 1), vi (s 31 2), vi (s 31 3), vi (s 31 4), vi (s 31 5), vr 32, vr 33, vr 34, vr 35, vr 36, vr 37, vr 38, vr 39, vr 40, vr 41, vr 42, vr 43, vr 44, vr 45, vr 46, vr 47, vr 48, vr 49, vr 50, vi (s 31 25), vi (s 31 26), vi (s 31 27), vi (s 31 28), vi (s 31 29), vi (s 31 30), vr 51, vi (s 31 32), vi (s 31 33), vr 52, vr 53, vr 54, vr 55, vr 56, vr 57, vi (s 31 40), vr 58, vi (s 31 42), vr 59, vr 60, vi (s 31 45)].set 40 (vi v))) = HX (wr s 31 40 v) R := rfl
theorem HXf_31_42 (s : Sg) (R : List AC) (v : Int32) : (HX s R).set 31 (ao 8 ([vi (s 31 0), vi (s 31 1), vi (s 31 2), vi (s 31 3), vi (s 31 4), vi (s 31 5), vr 32, vr 33, vr 34, vr 35, vr 36, vr 37, vr 38, vr 39, vr 40, vr 41, vr 42, vr 43, vr 44, vr 45, vr 46, vr 47, vr 48, vr 49, vr 50, vi (s 31 25), vi (s 31 26), vi (s 31 27), vi (s 31 28), vi (s 31 29), vi (s 31 30), vr 51, vi (s 31 32), vi (s 31 33), vr 52, vr 53, vr 54, vr 55, vr 56, vr 57, vi (s 31 40), vr 58, vi (s 31 42), vr 59, vr 60, vi (s 31 45)].set 42 (vi v))) = HX (wr s 31 42 v) R := rfl
theorem HXf_31_45 (s : Sg) (R : List AC) (v : Int32) : (HX s R).set 31 (ao 8 ([vi (s 31 0), vi (s 31 1), vi (s 31 2), vi (s 31 3), vi (s 31 4), vi (s 31 5), vr 32, vr 33, vr 34, vr 35, vr 36, vr 37, vr 38, vr 39, vr 40, vr 41, vr 42, vr 43, vr 44, vr 45, vr 46, vr 47, vr 48, vr 49, vr 50, vi (s 31 25), vi (s 31 26), vi (s 31 27), vi (s 31 28), vi (s 31 29), vi (s 31 30), vr 51, vi (s 31 32), vi (s 31 33), vr 52, vr 53, vr 54, vr 55, vr 56, vr 57, vi (s 31 40), vr 58, vi (s 31 42), vr 59, vr 60, vi (s 31 45)].set 45 (vi v))) = HX (wr s 31 45 v) R := rfl
theorem HXa_32 (s : Sg) (R : List AC) (i : Nat) (v : Int32) : (HX s R).set 32 (ai .boolean 10 (upd (s 32) i v)) = HX (wr s 32 i v) R := rfl
theorem HXa_33 (s : Sg) (R : List AC) (i : Nat) (v : Int32) : (HX s R).set 33 (ai .boolean 10 (upd (s 33) i v)) = HX (wr s 33 i v) R := rfl
theorem HXa_34 (s : Sg) (R : List AC) (i : Nat) (v : Int32) : (HX s R).set 34 (ai .boolean 10 (upd (s 34) i v)) = HX (wr s 34 i v) R := rfl
theorem HXa_35 (s : Sg) (R : List AC) (i : Nat) (v : Int32) : (HX s R).set 35 (ai .int 60 (upd (s 35) i v)) = HX (wr s 35 i v) R := rfl
theorem HXa_36 (s : Sg) (R : List AC) (i : Nat) (v : Int32) : (HX s R).set 36 (ai .int 60 (upd (s 36) i v)) = HX (wr s 36 i v) R := rfl
theorem HXa_37 (s : Sg) (R : List AC) (i : Nat) (v : Int32) : (HX s R).set 37 (ai .int 60 (upd (s 37) i v)) = HX (wr s 37 i v) R := rfl
theorem HXa_38 (s : Sg) (R : List AC) (i : Nat) (v : Int32) : (HX s R).set 38 (ai .boolean 60 (upd (s 38) i v)) = HX (wr s 38 i v) R := rfl
theorem HXa_39 (s : Sg) (R : List AC) (i : Nat) (v : Int32) : (HX s R).set 39 (ai .int 40 (upd (s 39) i v)) = HX (wr s 39 i v) R := rfl
theorem HXa_40 (s : Sg) (R : List AC) (i : Nat) (v : Int32) : (HX s R).set 40 (ai .int 40 (upd (s 40) i v)) = HX (wr s 40 i v) R := rfl
theorem HXa_41 (s : Sg) (R : List AC) (i : Nat) (v : Int32) : (HX s R).set 41 (ai .int 40 (upd (s 41) i v)) = HX (wr s 41 i v) R := rfl
theorem HXa_42 (s : Sg) (R : List AC) (i : Nat) (v : Int32) : (HX s R).set 42 (ai .boolean 40 (upd (s 42) i v)) = HX (wr s 42 i v) R := rfl
theorem HXa_43 (s : Sg) (R : List AC) (i : Nat) (v : Int32) : (HX s R).set 43 (ai .boolean 40 (upd (s 43) i v)) = HX (wr s 43 i v) R := rfl
theorem HXa_44 (s : Sg) (R : List AC) (i : Nat) (v : Int32) : (HX s R).set 44 (ai .boolean 40 (upd (s 44) i v)) = HX (wr s 44 i v) R := rfl
theorem HXa_45 (s : Sg) (R : List AC) (i : Nat) (v : Int32) : (HX s R).set 45 (ai .int 400 (upd (s 45) i v)) = HX (wr s 45 i v) R := rfl
theorem HXa_46 (s : Sg) (R : List AC) (i : Nat) (v : Int32) : (HX s R).set 46 (ai .int 400 (upd (s 46) i v)) = HX (wr s 46 i v) R := rfl
theorem HXa_47 (s : Sg) (R : List AC) (i : Nat) (v : Int32) : (HX s R).set 47 (ai .int 60 (upd (s 47) i v)) = HX (wr s 47 i v) R := rfl
theorem HXa_48 (s : Sg) (R : List AC) (i : Nat) (v : Int32) : (HX s R).set 48 (ai .int 60 (upd (s 48) i v)) = HX (wr s 48 i v) R := rfl
theorem HXa_49 (s : Sg) (R : List AC) (i : Nat) (v : Int32) : (HX s R).set 49 (ai .int 60 (upd (s 49) i v)) = HX (wr s 49 i v) R := rfl
theorem HXa_50 (s : Sg) (R : List AC) (i : Nat) (v : Int32) : (HX s R).set 50 (ai .int 60 (upd (s 50) i v)) = HX (wr s 50 i v) R := rfl
theorem HXa_51 (s : Sg) (R : List AC) (i : Nat) (v : Int32) : (HX s R).set 51 (ai .boolean 10 (upd (s 51) i v)) = HX (wr s 51 i v) R := rfl
theorem HXa_52 (s : Sg) (R : List AC) (i : Nat) (v : Int32) : (HX s R).set 52 (ai .int 20 (upd (s 52) i v)) = HX (wr s 52 i v) R := rfl
theorem HXa_53 (s : Sg) (R : List AC) (i : Nat) (v : Int32) : (HX s R).set 53 (ai .int 80 (upd (s 53) i v)) = HX (wr s 53 i v) R := rfl
theorem HXa_54 (s : Sg) (R : List AC) (i : Nat) (v : Int32) : (HX s R).set 54 (ai .int 120 (upd (s 54) i v)) = HX (wr s 54 i v) R := rfl
theorem HXa_55 (s : Sg) (R : List AC) (i : Nat) (v : Int32) : (HX s R).set 55 (ai .int 20 (upd (s 55) i v)) = HX (wr s 55 i v) R := rfl
theorem HXa_56 (s : Sg) (R : List AC) (i : Nat) (v : Int32) : (HX s R).set 56 (ai .int 80 (upd (s 56) i v)) = HX (wr s 56 i v) R := rfl
theorem HXa_57 (s : Sg) (R : List AC) (i : Nat) (v : Int32) : (HX s R).set 57 (ai .int 120 (upd (s 57) i v)) = HX (wr s 57 i v) R := rfl
theorem HXa_58 (s : Sg) (R : List AC) (i : Nat) (v : Int32) : (HX s R).set 58 (ai .int 120 (upd (s 58) i v)) = HX (wr s 58 i v) R := rfl
theorem HXa_59 (s : Sg) (R : List AC) (i : Nat) (v : Int32) : (HX s R).set 59 (ai .int 400 (upd (s 59) i v)) = HX (wr s 59 i v) R := rfl
theorem HXa_60 (s : Sg) (R : List AC) (i : Nat) (v : Int32) : (HX s R).set 60 (ai .int 400 (upd (s 60) i v)) = HX (wr s 60 i v) R := rfl
theorem HXc_12_22 (s : Sg) (R : List AC) (sp dp n : Nat) : (HX s R).set 22 (ai .int 40 (va_cpy (s 12) (s 22) sp dp n)) = HX (cpa s 12 22 sp dp n) R := rfl
theorem kB_m3 : (Int8.ofInt (-3)).toInt32 = ((-3) : Int32) := by decide +kernel
theorem kB_m2 : (Int8.ofInt (-2)).toInt32 = ((-2) : Int32) := by decide +kernel
theorem kB_6 : (Int8.ofInt 6).toInt32 = (6 : Int32) := by decide +kernel
theorem kB_7 : (Int8.ofInt 7).toInt32 = (7 : Int32) := by decide +kernel
theorem kB_8 : (Int8.ofInt 8).toInt32 = (8 : Int32) := by decide +kernel
theorem kB_10 : (Int8.ofInt 10).toInt32 = (10 : Int32) := by decide +kernel
theorem kB_15 : (Int8.ofInt 15).toInt32 = (15 : Int32) := by decide +kernel
theorem kB_20 : (Int8.ofInt 20).toInt32 = (20 : Int32) := by decide +kernel
theorem kB_32 : (Int8.ofInt 32).toInt32 = (32 : Int32) := by decide +kernel
theorem kB_40 : (Int8.ofInt 40).toInt32 = (40 : Int32) := by decide +kernel
theorem kB_60 : (Int8.ofInt 60).toInt32 = (60 : Int32) := by decide +kernel
theorem kB_80 : (Int8.ofInt 80).toInt32 = (80 : Int32) := by decide +kernel
theorem kB_100 : (Int8.ofInt 100).toInt32 = (100 : Int32) := by decide +kernel
theorem kB_120 : (Int8.ofInt 120).toInt32 = (120 : Int32) := by decide +kernel
theorem kI_m1 : Int32.ofInt (-1) = ((-1) : Int32) := by decide +kernel
theorem kI_0 : Int32.ofInt 0 = (0 : Int32) := by decide +kernel
theorem kI_1 : Int32.ofInt 1 = (1 : Int32) := by decide +kernel
theorem kI_2 : Int32.ofInt 2 = (2 : Int32) := by decide +kernel
theorem kI_3 : Int32.ofInt 3 = (3 : Int32) := by decide +kernel
theorem kI_4 : Int32.ofInt 4 = (4 : Int32) := by decide +kernel
theorem kI_5 : Int32.ofInt 5 = (5 : Int32) := by decide +kernel
theorem kI_7 : Int32.ofInt 7 = (7 : Int32) := by decide +kernel
theorem kS_128 : (Int16.ofInt 128).toInt32 = (128 : Int32) := by decide +kernel
theorem kS_220 : (Int16.ofInt 220).toInt32 = (220 : Int32) := by decide +kernel
theorem kS_400 : (Int16.ofInt 400).toInt32 = (400 : Int32) := by decide +kernel
theorem kS_896 : (Int16.ofInt 896).toInt32 = (896 : Int32) := by decide +kernel
theorem kS_1000 : (Int16.ofInt 1000).toInt32 = (1000 : Int32) := by decide +kernel
theorem sw_out0_6 {x : Int32} (g0 : ¬ x = 0) (g1 : ¬ x = 1) (g2 : ¬ x = 2) (g3 : ¬ x = 3) (g4 : ¬ x = 4) (g5 : ¬ x = 5) (g6 : ¬ x = 6) : x.toInt < 0 ∨ 6 < x.toInt := by
  have a0 : x.toInt ≠ 0 := fun h => g0 (Int32.toInt_inj.mp (h.trans (by decide +kernel)))
  have a1 : x.toInt ≠ 1 := fun h => g1 (Int32.toInt_inj.mp (h.trans (by decide +kernel)))
  have a2 : x.toInt ≠ 2 := fun h => g2 (Int32.toInt_inj.mp (h.trans (by decide +kernel)))
  have a3 : x.toInt ≠ 3 := fun h => g3 (Int32.toInt_inj.mp (h.trans (by decide +kernel)))
  have a4 : x.toInt ≠ 4 := fun h => g4 (Int32.toInt_inj.mp (h.trans (by decide +kernel)))
  have a5 : x.toInt ≠ 5 := fun h => g5 (Int32.toInt_inj.mp (h.trans (by decide +kernel)))
  have a6 : x.toInt ≠ 6 := fun h => g6 (Int32.toInt_inj.mp (h.trans (by decide +kernel)))
  omega
theorem sw_out0_14 {x : Int32} (g0 : ¬ x = 0) (g1 : ¬ x = 1) (g2 : ¬ x = 2) (g3 : ¬ x = 3) (g4 : ¬ x = 4) (g5 : ¬ x = 5) (g6 : ¬ x = 6) (g7 : ¬ x = 7) (g8 : ¬ x = 8) (g9 : ¬ x = 9) (g10 : ¬ x = 10) (g11 : ¬ x = 11) (g12 : ¬ x = 12) (g13 : ¬ x = 13) (g14 : ¬ x = 14) : x.toInt < 0 ∨ 14 < x.toInt := by
  have a0 : x.toInt ≠ 0 := fun h => g0 (Int32.toInt_inj.mp (h.trans (by decide +kernel)))
  have a1 : x.toInt ≠ 1 := fun h => g1 (Int32.toInt_inj.mp (h.trans (by decide +kernel)))
  have a2 : x.toInt ≠ 2 := fun h => g2 (Int32.toInt_inj.mp (h.trans (by decide +kernel)))
  have a3 : x.toInt ≠ 3 := fun h => g3 (Int32.toInt_inj.mp (h.trans (by decide +kernel)))
  have a4 : x.toInt ≠ 4 := fun h => g4 (Int32.toInt_inj.mp (h.trans (by decide +kernel)))
  have a5 : x.toInt ≠ 5 := fun h => g5 (Int32.toInt_inj.mp (h.trans (by decide +kernel)))
  have a6 : x.toInt ≠ 6 := fun h => g6 (Int32.toInt_inj.mp (h.trans (by decide +kernel)))
  have a7 : x.toInt ≠ 7 := fun h => g7 (Int32.toInt_inj.mp (h.trans (by decide +kernel)))
  have a8 : x.toInt ≠ 8 := fun h => g8 (Int32.toInt_inj.mp (h.trans (by decide +kernel)))
  have a9 : x.toInt ≠ 9 := fun h => g9 (Int32.toInt_inj.mp (h.trans (by decide +kernel)))
  have a10 : x.toInt ≠ 10 := fun h => g10 (Int32.toInt_inj.mp (h.trans (by decide +kernel)))
  have a11 : x.toInt ≠ 11 := fun h => g11 (Int32.toInt_inj.mp (h.trans (by decide +kernel)))
  have a12 : x.toInt ≠ 12 := fun h => g12 (Int32.toInt_inj.mp (h.trans (by decide +kernel)))
  have a13 : x.toInt ≠ 13 := fun h => g13 (Int32.toInt_inj.mp (h.trans (by decide +kernel)))
  have a14 : x.toInt ≠ 14 := fun h => g14 (Int32.toInt_inj.mp (h.trans (by decide +kernel)))
  omega
