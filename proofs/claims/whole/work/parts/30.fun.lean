def f_Packs_add (l1 : Int32) (s : Sg) : Ro :=
  if inb (s 1 0) 10 = true then
  if isb l1 = true then
  some (((s 1 0) + 1) - 1, wr (wr s 2 (ix (s 1 0)) l1) 1 0 ((s 1 0) + 1)) else none else none
def f_FU_pack (l1 : Int32) (s : Sg) : Ro :=
  if (s 1 0) < 10 then
    bnd (f_Packs_add l1 (wr s 0 10 0)) (fun v1 s1 =>
    some (v1, s1))
  else
    some ((-1), s)
def f_FU_within (l0 l1 : Int32) (s : Sg) : Ro :=
  if l0 < 0 then
    some (0, s)
  else
    if l1 ≤ l0 then
      some (0, s)
    else
      some (1, s)
def f_Packs_has (l1 : Int32) (s : Sg) : Ro :=
  bnd (f_FU_within l1 (s 1 0) s) (fun v1 s1 =>
  if isb v1 = true then some (v1, s1) else none)
def f_Feats_find_2  (l1 l2 : Int32) : Int32 → Sg → Ro := itr1 (fun rec2 l3 s =>
  if (s 3 0) ≤ l3 then
    some ((-1), s)
  else
    if inb l3 60 = true then
    if (s 4 (ix l3)) = l1 then
      if inb l3 60 = true then
      if (s 5 (ix l3)) = l2 then
        some (l3, s)
      else
        rec2 (l3 + 1) s else none
    else
      rec2 (l3 + 1) s else none) 4096
def f_Feats_find (l1 l2 : Int32) (s : Sg) : Ro :=
  f_Feats_find_2 l1 l2 0 s
def f_Feats_countOf_4  (l1 : Int32) : Int32 → Int32 → Sg → Ro := itr2 (fun rec4 l2 l3 s =>
  if (s 3 0) ≤ l3 then
    some (l2, s)
  else
    if inb l3 60 = true then
    if (s 4 (ix l3)) = l1 then
      rec4 (l2 + 1) (l3 + 1) s
    else
      rec4 l2 (l3 + 1) s else none) 4096
def f_Feats_countOf (l1 : Int32) (s : Sg) : Ro :=
  f_Feats_countOf_4 l1 0 0 s
def f_Feats_add (l1 l2 l3 l4 : Int32) (s : Sg) : Ro :=
  if inb (s 3 0) 60 = true then
  if inb (s 3 0) 60 = true then
  if inb (s 3 0) 60 = true then
  if inb (s 3 0) 60 = true then
  if isb l3 = true then
  some (((s 3 0) + 1) - 1, wr (wr (wr (wr (wr s 4 (ix (s 3 0)) l1) 5 (ix (s 3 0)) l2) 6 (ix (s 3 0)) l4) 7 (ix (s 3 0)) l3) 3 0 ((s 3 0) + 1)) else none else none else none else none else none
def f_FU_feature (l1 l2 l3 l4 : Int32) (s : Sg) : Ro :=
  bnd (f_Packs_has l1 s) (fun v1 s1 =>
  if v1 = 0 then
    some ((-1), s1)
  else
    bnd (f_FU_within l2 32 s1) (fun v2 s2 =>
    if v2 = 0 then
      some ((-1), s2)
    else
      bnd (f_FU_within l4 8 s2) (fun v3 s3 =>
      if v3 = 0 then
        some ((-1), s3)
      else
        bnd (f_Feats_find l1 l2 s3) (fun v4 s4 =>
        if v4 = (-1) then
          bnd (f_Feats_countOf l1 s4) (fun v5 s5 =>
          if 10 ≤ v5 then
            some ((-1), s5)
          else
            if (s5 3 0) < 60 then
              bnd (f_Feats_add l1 l2 l3 l4 (wr s5 0 10 0)) (fun v6 s6 =>
              some (v6, s6))
            else
              some ((-1), s5))
        else
          some ((-1), s4)))))
def f_FU_bit (l0 l1 : Int32) (s : Sg) : Ro :=
  if ((l0 >>> (l1 &&& 31)) &&& 1) = 1 then
    some (1, s)
  else
    some (0, s)
def f_Packs_makeRoot (l1 l2 : Int32) (s : Sg) : Ro :=
  if l2 = 0 then
    some (0, wr s 1 1 ((s 1 1) ||| (1 <<< (l1 &&& 31))))
  else
    some (0, wr (wr s 1 1 ((s 1 1) ||| (1 <<< (l1 &&& 31)))) 1 2 ((s 1 2) ||| (1 <<< (l1 &&& 31))))
def f_FU_root (l1 l2 : Int32) (s : Sg) : Ro :=
  bnd (f_Packs_has l1 s) (fun v1 s1 =>
  if v1 = 0 then
    some (0, s1)
  else
    bnd (f_FU_bit (s1 1 1) l1 s1) (fun v2 s2 =>
    if v2 = 0 then
      bnd (f_Packs_makeRoot l1 l2 (wr s2 0 10 0)) (fun v3 s3 =>
      some (1, s3))
    else
      some (0, s2)))
def f_Users_add (l1 l2 l3 l4 l5 l6 : Int32) (s : Sg) : Ro :=
  if inb (s 8 0) 40 = true then
  if inb (s 8 0) 40 = true then
  if inb (s 8 0) 40 = true then
  if isb l3 = true then
  if inb (s 8 0) 40 = true then
  if isb l4 = true then
  if inb (s 8 0) 40 = true then
  if isb l5 = true then
  if inb (s 8 0) 40 = true then
  some (((s 8 0) + 1) - 1, wr (wr (wr (wr (wr (wr (wr s 9 (ix (s 8 0)) l1) 10 (ix (s 8 0)) l2) 13 (ix (s 8 0)) l3) 14 (ix (s 8 0)) l4) 15 (ix (s 8 0)) l5) 11 (ix (s 8 0)) l6) 8 0 ((s 8 0) + 1)) else none else none else none else none else none else none else none else none else none
def f_FU_user (l1 l2 l3 l4 l5 l6 : Int32) (s : Sg) : Ro :=
  bnd (f_Packs_has l1 s) (fun v1 s1 =>
  if v1 = 0 then
    some ((-1), s1)
  else
    bnd (f_Packs_has l2 s1) (fun v2 s2 =>
    if v2 = 0 then
      some ((-1), s2)
    else
      if (s2 8 0) < 40 then
        bnd (f_Users_add l1 l2 l3 l4 l5 l6 (wr s2 0 10 0)) (fun v3 s3 =>
        some (v3, s3))
      else
        some ((-1), s2)))
def f_Users_has (l1 : Int32) (s : Sg) : Ro :=
  bnd (f_FU_within l1 (s 8 0) s) (fun v1 s1 =>
  if isb v1 = true then some (v1, s1) else none)
def f_FU_asks (l1 l2 : Int32) (s : Sg) : Ro :=
  bnd (f_Users_has l1 s) (fun v1 s1 =>
  if v1 = 0 then
    some ((-1), s1)
  else
    if inb l1 40 = true then
    bnd (f_Feats_find (s1 10 (ix l1)) l2 s1) (fun v2 s2 =>
    if v2 = (-1) then
      some ((-2), s2)
    else
      if inb l1 40 = true then
      bnd (f_FU_bit (s2 12 (ix l1)) l2 s2) (fun v3 s3 =>
      if v3 = 0 then
        if inb l1 40 = true then
        if inb l1 40 = true then
        some (1, wr (wr s3 0 10 0) 12 (ix l1) ((s3 12 (ix l1)) ||| (1 <<< (l2 &&& 31)))) else none else none
      else
        some ((-3), s3)) else none) else none)
def f_Feats_has (l1 : Int32) (s : Sg) : Ro :=
  bnd (f_FU_within l1 (s 3 0) s) (fun v1 s1 =>
  if isb v1 = true then some (v1, s1) else none)
def f_Turns_add (l1 l2 l3 l4 : Int32) (s : Sg) : Ro :=
  if inb (s 16 0) 60 = true then
  if inb (s 16 0) 60 = true then
  if inb (s 16 0) 60 = true then
  if inb (s 16 0) 60 = true then
  some (((s 16 0) + 1) - 1, wr (wr (wr (wr (wr s 17 (ix (s 16 0)) l1) 18 (ix (s 16 0)) l2) 19 (ix (s 16 0)) l3) 20 (ix (s 16 0)) l4) 16 0 ((s 16 0) + 1)) else none else none else none else none
def f_FU_turn_158  (l1 l2 l6 l7 : Int32) (s : Sg) : Ro :=
  bnd (f_Turns_add l1 l2 l6 l7 (wr s 0 10 0)) (fun v1 s1 =>
  some (v1, s1))
def f_FU_turn_133  (l1 l2 l4 l6 : Int32) (t0 : Int32) (s : Sg) : Ro :=
  bnd (f_Feats_find t0 l4 s) (fun v1 s1 =>
  if v1 = (-1) then
    some ((-1), s1)
  else
    if l2 = 0 then
      if v1 = l1 then
        some ((-1), s1)
      else
        f_FU_turn_158 l1 l2 l6 v1 s1
    else
      f_FU_turn_158 l1 l2 l6 v1 s1)
def f_FU_turn_100  (l1 l2 l4 l5 l6 : Int32) (s : Sg) : Ro :=
  if l2 = 1 then
    f_FU_turn_158 l1 l2 l6 (-1) s
  else
    if l6 = (-1) then
      f_FU_turn_133 l1 l2 l4 l6 l5 s
    else
      if inb l6 40 = true then
      f_FU_turn_133 l1 l2 l4 l6 (s 10 (ix l6)) s else none
def f_FU_turn_97  (l1 l2 l3 l4 l5 : Int32) (s : Sg) : Ro :=
  f_FU_turn_100 l1 l2 l4 l5 l3 s
def f_FU_turn (l1 l2 l3 l4 : Int32) (s : Sg) : Ro :=
  bnd (f_Feats_has l1 s) (fun v1 s1 =>
  if v1 = 0 then
    some ((-1), s1)
  else
    bnd (f_FU_within l2 4 s1) (fun v2 s2 =>
    if v2 = 0 then
      some ((-1), s2)
    else
      if (s2 16 0) < 60 then
        if inb l1 60 = true then
        if l2 = 0 then
          f_FU_turn_100 l1 l2 l4 (s2 4 (ix l1)) (-1) s2
        else
          bnd (f_Users_has l3 s2) (fun v3 s3 =>
          if v3 = 0 then
            some ((-1), s3)
          else
            if inb l3 40 = true then
            if (s3 9 (ix l3)) = (s2 4 (ix l1)) then
              if l2 = 1 then
                if inb l3 40 = true then
                if (s3 15 (ix l3)) = 0 then
                  some ((-1), s3)
                else
                  f_FU_turn_97 l1 l2 l3 l4 (s2 4 (ix l1)) s3 else none
              else
                f_FU_turn_97 l1 l2 l3 l4 (s2 4 (ix l1)) s3
            else
              some ((-1), s3) else none) else none
      else
        some ((-1), s2)))
def f_Snap_take (l1 : Int32) (s : Sg) : Ro :=
  if (¬ (0 : Int32) < 0 ∧ ¬ (0 : Int32) < 0 ∧ ¬ (40 : Int32) < 0) ∧ ix 0 + ix 40 ≤ 40 ∧ ix 0 + ix 40 ≤ 40 then
  some (0, cpa (wr (wr (wr (wr (wr (wr (wr s 21 4 l1) 21 5 (s 1 1)) 21 6 (s 1 2)) 21 7 (s 1 0)) 21 8 (s 3 0)) 21 9 (s 8 0)) 21 10 (s 16 0)) 12 22 (ix 0) (ix 0) (ix 40)) else none
def f_Clo_bring (c : Nat) (l1 l2 : Int32) (s : Sg) : Ro :=
  if inb l1 220 = true then
  if (s (c + 1) (ix l1)) = 0 then
    if 220 ≤ (s c 3) then
      some (0, s)
    else
      if inb l1 220 = true then
      if inb (s c 3) 220 = true then
      some (0, wr (wr (wr s (c + 1) (ix l1) l2) (c + 2) (ix (s c 3)) l1) c 3 ((s c 3) + 1)) else none else none
  else
    some (0, s) else none
def f_Clo_bringThere (c : Nat) (l1 l2 l3 : Int32) (s : Sg) : Ro :=
  bnd (f_Clo_bring c ((2 * l1) + l2) l3 s) (fun v1 s1 =>
  some (0, s1))
def f_Snap_counts (l1 : Int32) (s : Sg) : Ro :=
  if inb l1 40 = true then
  bnd (f_FU_bit (s 11 (ix l1)) (s 21 4) s) (fun v1 s1 =>
  if isb v1 = true then some (v1, s1) else none) else none
def f_Clo_bringLive (c : Nat) (l1 l2 l3 : Int32) (s : Sg) : Ro :=
  bnd (f_Snap_counts l1 s) (fun v1 s1 =>
  if v1 = 0 then
    some (0, s1)
  else
    bnd (f_Clo_bring c ((20 + (2 * l1)) + l2) l3 s1) (fun v2 s2 =>
    some (0, s2)))
def f_Snap_isDefaultOfRoot (l1 : Int32) (s : Sg) : Ro :=
  if inb l1 60 = true then
  if (s 7 (ix l1)) = 0 then
    some (0, s)
  else
    if inb l1 60 = true then
    bnd (f_FU_bit (s 21 6) (s 4 (ix l1)) s) (fun v1 s1 =>
    if v1 = 0 then
      some (0, s1)
    else
      some (1, s1)) else none else none
def f_Clo_onStage (c : Nat) (l1 l2 : Int32) (s : Sg) : Ro :=
  if inb ((100 + (2 * l1)) + l2) 220 = true then
  some (s (c + 1) (ix ((100 + (2 * l1)) + l2)), s) else none
def f_Clo_isBy (l0 l1 : Int32) (s : Sg) : Ro :=
  if l0 = 0 then
    some (0, s)
  else
    if l1 < l0 then
      some (0, s)
    else
      some (1, s)
def f_Clo_bringOn (c : Nat) (l1 l2 l3 : Int32) (s : Sg) : Ro :=
  bnd (f_Clo_bring c ((100 + (2 * l1)) + l2) l3 s) (fun v1 s1 =>
  some (0, s1))
def f_Clo_followThere_170 (c : Nat) (rec67 : Int32 → Sg → Ro) (l2 l3 l4 : Int32) (s : Sg) : Ro :=
  bnd (f_Clo_bringOn c l4 l2 (l3 + 1) s) (fun v1 s1 =>
  rec67 (l4 + 1) s1)
def f_Clo_followThere_158 (c : Nat) (rec67 : Int32 → Sg → Ro) (l2 l3 l4 l5 : Int32) (t0 : Int32) (s : Sg) : Ro :=
  if l5 = 0 then
    if t0 = 0 then
      rec67 (l4 + 1) s
    else
      f_Clo_followThere_170 c rec67 l2 l3 l4 s
  else
    f_Clo_followThere_170 c rec67 l2 l3 l4 s
def f_Clo_followThere_157 (c : Nat) (rec67 : Int32 → Sg → Ro) (l2 l3 l4 l5 : Int32) (s : Sg) : Ro :=
  f_Clo_followThere_158 c rec67 l2 l3 l4 l5 0 s
def f_Clo_followThere_120 (c : Nat) (rec67 : Int32 → Sg → Ro) (l1 l2 l3 l4 : Int32) (t0 : Int32) (s : Sg) : Ro :=
  if inb l1 10 = true then
  if (s 2 (ix l1)) = 0 then
    bnd (f_Clo_onStage c l4 (1 - l2) s) (fun v1 s1 =>
    bnd (f_Clo_isBy v1 l3 s1) (fun v2 s2 =>
    if v2 = 0 then
      f_Clo_followThere_157 c rec67 l2 l3 l4 t0 s2
    else
      f_Clo_followThere_158 c rec67 l2 l3 l4 t0 1 s2))
  else
    f_Clo_followThere_157 c rec67 l2 l3 l4 t0 s else none
def f_Clo_followThere_119 (c : Nat) (rec67 : Int32 → Sg → Ro) (l1 l2 l3 l4 : Int32) (s : Sg) : Ro :=
  f_Clo_followThere_120 c rec67 l1 l2 l3 l4 0 s
def f_Clo_followThere_67 (c : Nat)  (l1 l2 l3 : Int32) : Int32 → Sg → Ro := itr1 (fun rec67 l4 s =>
  if (s 21 8) ≤ l4 then
    some (0, s)
  else
    if inb l4 60 = true then
    if (s 4 (ix l4)) = l1 then
      if l2 = 0 then
        bnd (f_Snap_isDefaultOfRoot l4 s) (fun v1 s1 =>
        if v1 = 0 then
          f_Clo_followThere_119 c rec67 l1 l2 l3 l4 s1
        else
          f_Clo_followThere_120 c rec67 l1 l2 l3 l4 1 s1)
      else
        f_Clo_followThere_119 c rec67 l1 l2 l3 l4 s
    else
      rec67 (l4 + 1) s else none) 4096
def f_Clo_followThere_3 (c : Nat)  (l1 l2 l3 : Int32) : Int32 → Sg → Ro := itr1 (fun rec3 l4 s =>
  if (s 21 9) ≤ l4 then
    f_Clo_followThere_67 c l1 l2 l3 0 s
  else
    if inb l4 40 = true then
    if (s 9 (ix l4)) = l1 then
      if inb l4 40 = true then
      if (s 15 (ix l4)) = 0 then
        bnd (f_Clo_bringLive c l4 l2 (l3 + 1) s) (fun v1 s1 =>
        rec3 (l4 + 1) s1)
      else
        rec3 (l4 + 1) s else none
    else
      rec3 (l4 + 1) s else none) 4096
def f_Clo_followThere (c : Nat) (l1 l2 l3 : Int32) (s : Sg) : Ro :=
  f_Clo_followThere_3 c l1 l2 l3 0 s
def f_Users_farSide (l1 l2 : Int32) (s : Sg) : Ro :=
  if inb l1 40 = true then
  if (s 14 (ix l1)) = 0 then
    some (l2, s)
  else
    some (1, s) else none
def f_Snap_isAskedBy (l1 l2 : Int32) (s : Sg) : Ro :=
  if inb l2 60 = true then
  if inb l1 40 = true then
  if (s 4 (ix l2)) = (s 10 (ix l1)) then
    if inb l1 40 = true then
    if inb l2 60 = true then
    bnd (f_FU_bit (s 22 (ix l1)) (s 5 (ix l2)) s) (fun v1 s1 =>
    if v1 = 0 then
      some (0, s1)
    else
      some (1, s1)) else none else none
  else
    some (0, s) else none else none
def f_Snap_isDefaultFor (l1 l2 : Int32) (s : Sg) : Ro :=
  if inb l2 60 = true then
  if inb l1 40 = true then
  if (s 4 (ix l2)) = (s 10 (ix l1)) then
    if inb l1 40 = true then
    if (s 13 (ix l1)) = 0 then
      some (0, s)
    else
      if inb l2 60 = true then
      if (s 7 (ix l2)) = 0 then
        some (0, s)
      else
        some (1, s) else none else none
  else
    some (0, s) else none else none
def f_Clo_followLive_96 (c : Nat)  (l1 l2 l3 l4 : Int32) : Int32 → Sg → Ro := itr1 (fun rec96 l5 s =>
  if (s 21 10) ≤ l5 then
    some (0, s)
  else
    if inb l5 60 = true then
    if (s 18 (ix l5)) = 3 then
      if inb l5 60 = true then
      if (s 19 (ix l5)) = l1 then
        if inb l5 60 = true then
        bnd (f_Clo_onStage c (s 17 (ix l5)) l2 s) (fun v1 s1 =>
        bnd (f_Clo_isBy v1 l3 s1) (fun v2 s2 =>
        if v2 = 0 then
          rec96 (l5 + 1) s2
        else
          if inb l5 60 = true then
          bnd (f_Clo_bringOn c (s2 20 (ix l5)) l4 (l3 + 1) s2) (fun v3 s3 =>
          rec96 (l5 + 1) s3) else none)) else none
      else
        rec96 (l5 + 1) s else none
    else
      rec96 (l5 + 1) s else none) 4096
def f_Clo_followLive_76 (c : Nat) (rec38 : Int32 → Sg → Ro) (l3 l4 l5 : Int32) (s : Sg) : Ro :=
  bnd (f_Clo_bringOn c l5 l4 (l3 + 1) s) (fun v1 s1 =>
  rec38 (l5 + 1) s1)
def f_Clo_followLive_38 (c : Nat)  (l1 l2 l3 l4 : Int32) : Int32 → Sg → Ro := itr1 (fun rec38 l5 s =>
  if (s 21 8) ≤ l5 then
    f_Clo_followLive_96 c l1 l2 l3 l4 0 s
  else
    bnd (f_Snap_isAskedBy l1 l5 s) (fun v1 s1 =>
    if v1 = 0 then
      bnd (f_Snap_isDefaultFor l1 l5 s1) (fun v2 s2 =>
      if v2 = 0 then
        rec38 (l5 + 1) s2
      else
        f_Clo_followLive_76 c rec38 l3 l4 l5 s2)
    else
      f_Clo_followLive_76 c rec38 l3 l4 l5 s1)) 4096
def f_Clo_followLive (c : Nat) (l1 l2 l3 : Int32) (s : Sg) : Ro :=
  bnd (f_Users_farSide l1 l2 s) (fun v1 s1 =>
  if inb l1 40 = true then
  bnd (f_Clo_bringThere c (s1 10 (ix l1)) v1 (l3 + 1) s1) (fun v2 s2 =>
  f_Clo_followLive_38 c l1 l2 l3 v1 0 s2) else none)
def f_Clo_thereStage (c : Nat) (l1 l2 : Int32) (s : Sg) : Ro :=
  if inb ((2 * l1) + l2) 220 = true then
  some (s (c + 1) (ix ((2 * l1) + l2)), s) else none
def f_Clo_liveStage (c : Nat) (l1 l2 : Int32) (s : Sg) : Ro :=
  if inb ((20 + (2 * l1)) + l2) 220 = true then
  some (s (c + 1) (ix ((20 + (2 * l1)) + l2)), s) else none
def f_Clo_followTurn_119 (c : Nat)  (l2 l3 l5 l6 : Int32) (s : Sg) : Ro :=
  bnd (f_Users_farSide l6 l2 s) (fun v1 s1 =>
  bnd (f_Clo_bringOn c l5 v1 (l3 + 1) s1) (fun v2 s2 =>
  some (0, s2)))
def f_Clo_followTurn_93 (c : Nat)  (l2 l3 l4 l5 l6 : Int32) (s : Sg) : Ro :=
  if l4 = 2 then
    f_Clo_followTurn_119 c l2 l3 l5 l6 s
  else
    if l4 = 3 then
      bnd (f_Clo_liveStage c l6 l2 s) (fun v1 s1 =>
      bnd (f_Clo_isBy v1 l3 s1) (fun v2 s2 =>
      if v2 = 0 then
        some (0, s2)
      else
        f_Clo_followTurn_119 c l2 l3 l5 l6 s2))
    else
      some (0, s)
def f_Clo_followTurn_83 (c : Nat)  (l2 l3 l4 l5 l6 : Int32) (s : Sg) : Ro :=
  bnd (f_Clo_bringLive c l6 l2 (l3 + 1) s) (fun v1 s1 =>
  f_Clo_followTurn_93 c l2 l3 l4 l5 l6 s1)
def f_Clo_followTurn (c : Nat) (l1 l2 l3 : Int32) (s : Sg) : Ro :=
  if inb l1 60 = true then
  if inb l1 60 = true then
  if (s 18 (ix l1)) = 0 then
    bnd (f_Clo_bringOn c (s 20 (ix l1)) l2 (l3 + 1) s) (fun v1 s1 =>
    some (0, s1))
  else
    if inb l1 60 = true then
    bnd (f_Snap_counts (s 19 (ix l1)) s) (fun v2 s2 =>
    if v2 = 0 then
      some (0, s2)
    else
      if (s 18 (ix l1)) = 1 then
        f_Clo_followTurn_83 c l2 l3 (s 18 (ix l1)) (s 20 (ix l1)) (s 19 (ix l1)) s2
      else
        if (s 18 (ix l1)) = 2 then
          f_Clo_followTurn_83 c l2 l3 (s 18 (ix l1)) (s 20 (ix l1)) (s 19 (ix l1)) s2
        else
          f_Clo_followTurn_93 c l2 l3 (s 18 (ix l1)) (s 20 (ix l1)) (s 19 (ix l1)) s2) else none else none else none
def f_Clo_followOn_60 (c : Nat)  (l1 l2 l3 : Int32) : Int32 → Sg → Ro := itr1 (fun rec60 l5 s =>
  if (s 21 10) ≤ l5 then
    some (0, s)
  else
    if inb l5 60 = true then
    if (s 17 (ix l5)) = l1 then
      bnd (f_Clo_followTurn c l5 l2 l3 s) (fun v1 s1 =>
      rec60 (l5 + 1) s1)
    else
      rec60 (l5 + 1) s else none) 4096
def f_Clo_followOn (c : Nat) (l1 l2 l3 : Int32) (s : Sg) : Ro :=
  if inb l1 60 = true then
  if inb (s 4 (ix l1)) 10 = true then
  if (s 2 (ix (s 4 (ix l1)))) = 0 then
    bnd (f_Clo_thereStage c (s 4 (ix l1)) (1 - l2) s) (fun v1 s1 =>
    bnd (f_Clo_isBy v1 l3 s1) (fun v2 s2 =>
    if v2 = 0 then
      f_Clo_followOn_60 c l1 l2 l3 0 s2
    else
      bnd (f_Clo_bringOn c l1 (1 - l2) (l3 + 1) s2) (fun v3 s3 =>
      f_Clo_followOn_60 c l1 l2 l3 0 s3)))
  else
    f_Clo_followOn_60 c l1 l2 l3 0 s else none else none
def f_Clo_follow (c : Nat) (l1 : Int32) (s : Sg) : Ro :=
  if inb l1 220 = true then
  if 20 ≤ l1 then
    if 100 ≤ l1 then
      bnd (f_Clo_followOn c ((l1 - 100) / 2) (l1 - l1 / 2 * 2) (s (c + 1) (ix l1)) s) (fun v1 s1 =>
      some (0, s1))
    else
      bnd (f_Clo_followLive c ((l1 - 20) / 2) (l1 - l1 / 2 * 2) (s (c + 1) (ix l1)) s) (fun v2 s2 =>
      some (0, s2))
  else
    bnd (f_Clo_followThere c (l1 / 2) (l1 - l1 / 2 * 2) (s (c + 1) (ix l1)) s) (fun v3 s3 =>
    some (0, s3)) else none
def f_Clo_close_69 (c : Nat)  : Int32 → Sg → Ro := itr1 (fun rec69 l1 s =>
  if (s c 3) ≤ l1 then
    some (0, s)
  else
    if 220 ≤ l1 then
      some (0, s)
    else
      if inb l1 220 = true then
      bnd (f_Clo_follow c (s (c + 2) (ix l1)) s) (fun v1 s1 =>
      rec69 (l1 + 1) s1) else none) 4096
def f_Clo_close_29 (c : Nat)  : Int32 → Sg → Ro := itr1 (fun rec29 l1 s =>
  if (s 21 7) ≤ l1 then
    f_Clo_close_69 c 0 s
  else
    bnd (f_FU_bit (s 21 5) l1 s) (fun v1 s1 =>
    if v1 = 0 then
      rec29 (l1 + 1) s1
    else
      bnd (f_Clo_bringThere c l1 0 1 s1) (fun v2 s2 =>
      rec29 (l1 + 1) s2))) 4096
def f_Clo_close_2 (c : Nat)  : Int32 → Sg → Ro := itr1 (fun rec2 l1 s =>
  if 220 ≤ l1 then
    f_Clo_close_29 c 0 (wr s c 3 0)
  else
    if inb l1 220 = true then
    rec2 (l1 + 1) (wr s (c + 1) (ix l1) 0) else none) 4096
def f_Clo_close (c : Nat) (s : Sg) : Ro :=
  f_Clo_close_2 c 0 s
def f_Clo_greatestStage (c : Nat) (s : Sg) : Ro :=
  if (s c 3) = 0 then
    some (0, s)
  else
    if inb ((s c 3) - 1) 220 = true then
    if inb (s (c + 2) (ix ((s c 3) - 1))) 220 = true then
    some (s (c + 1) (ix (s (c + 2) (ix ((s c 3) - 1)))), s) else none else none
def f_FU_run (l1 : Int32) (s : Sg) : Ro :=
  bnd (f_FU_within l1 8 s) (fun v1 s1 =>
  if v1 = 0 then
    some ((-1), s1)
  else
    bnd (f_Snap_take l1 s1) (fun v2 s2 =>
    bnd (f_Clo_close 23 s2) (fun v3 s3 =>
    bnd (f_Clo_greatestStage 23 (wr s3 0 10 1)) (fun v4 s4 =>
    some (v4, s4)))))
def f_FU_there (l1 l2 : Int32) (s : Sg) : Ro :=
  bnd (f_Packs_has l1 s) (fun v1 s1 =>
  if v1 = 0 then
    some (0, s1)
  else
    bnd (f_FU_within l2 2 s1) (fun v2 s2 =>
    if v2 = 0 then
      some (0, s2)
    else
      bnd (f_Clo_thereStage 23 l1 l2 s2) (fun v3 s3 =>
      some (v3, s3))))
def f_FU_live (l1 l2 : Int32) (s : Sg) : Ro :=
  bnd (f_Users_has l1 s) (fun v1 s1 =>
  if v1 = 0 then
    some (0, s1)
  else
    bnd (f_FU_within l2 2 s1) (fun v2 s2 =>
    if v2 = 0 then
      some (0, s2)
    else
      bnd (f_Clo_liveStage 23 l1 l2 s2) (fun v3 s3 =>
      some (v3, s3))))
def f_FU_on (l1 l2 : Int32) (s : Sg) : Ro :=
  bnd (f_Feats_has l1 s) (fun v1 s1 =>
  if v1 = 0 then
    some (0, s1)
  else
    bnd (f_FU_within l2 2 s1) (fun v2 s2 =>
    if v2 = 0 then
      some (0, s2)
    else
      bnd (f_Clo_onStage 23 l1 l2 s2) (fun v3 s3 =>
      some (v3, s3))))
def f_Reas_isByRoot (l1 l2 l3 : Int32) (s : Sg) : Ro :=
  if inb l2 60 = true then
  if (s 4 (ix l2)) = l1 then
    if l3 = 0 then
      bnd (f_Snap_isDefaultOfRoot l2 s) (fun v1 s1 =>
      if v1 = 0 then
        some (0, s1)
      else
        bnd (f_Clo_thereStage 23 l1 0 s1) (fun v2 s2 =>
        if v2 = 0 then
          some (0, s2)
        else
          some (1, s2)))
    else
      some (0, s)
  else
    some (0, s) else none
def f_Reas_isByUser (l1 l2 l3 l4 : Int32) (s : Sg) : Ro :=
  if (s 21 9) ≤ (l2 / 2) then
    some (0, s)
  else
    bnd (f_Clo_liveStage 23 (l2 / 2) (l2 - l2 / 2 * 2) s) (fun v1 s1 =>
    if v1 = 0 then
      some (0, s1)
    else
      bnd (f_Users_farSide (l2 / 2) (l2 - l2 / 2 * 2) s1) (fun v2 s2 =>
      if v2 = l4 then
        if l1 = 1 then
          bnd (f_Snap_isAskedBy (l2 / 2) l3 s2) (fun v3 s3 =>
          if isb v3 = true then some (v3, s3) else none)
        else
          bnd (f_Snap_isDefaultFor (l2 / 2) l3 s2) (fun v4 s4 =>
          if isb v4 = true then some (v4, s4) else none)
      else
        some (0, s2)))
def f_Reas_isByTurn (l1 l2 l3 l4 : Int32) (s : Sg) : Ro :=
  if (s 21 10) ≤ (l2 / 2) then
    some (0, s)
  else
    if inb (l2 / 2) 60 = true then
    if (s 20 (ix (l2 / 2))) = l3 then
      if inb (l2 / 2) 60 = true then
      bnd (f_Clo_onStage 23 (s 17 (ix (l2 / 2))) (l2 - l2 / 2 * 2) s) (fun v1 s1 =>
      if v1 = 0 then
        some (0, s1)
      else
        if inb (l2 / 2) 60 = true then
        if l1 = 3 then
          if (s1 18 (ix (l2 / 2))) = 0 then
            if (l2 - l2 / 2 * 2) = l4 then
              some (1, s1)
            else
              some (0, s1)
          else
            some (0, s1)
        else
          if inb (l2 / 2) 60 = true then
          if (s1 19 (ix (l2 / 2))) = (-1) then
            some (0, s1)
          else
            bnd (f_Snap_counts (s1 19 (ix (l2 / 2))) s1) (fun v2 s2 =>
            if v2 = 0 then
              some (0, s2)
            else
              bnd (f_Users_farSide (s1 19 (ix (l2 / 2))) (l2 - l2 / 2 * 2) s2) (fun v3 s3 =>
              if v3 = l4 then
                if l1 = 4 then
                  if (s1 18 (ix (l2 / 2))) = 2 then
                    some (1, s3)
                  else
                    some (0, s3)
                else
                  if (s1 18 (ix (l2 / 2))) = 3 then
                    bnd (f_Clo_liveStage 23 (s1 19 (ix (l2 / 2))) (l2 - l2 / 2 * 2) s3) (fun v4 s4 =>
                    if v4 = 0 then
                      some (0, s4)
                    else
                      some (1, s4))
                  else
                    some (0, s3)
              else
                some (0, s3))) else none else none) else none
    else
      some (0, s) else none
def f_Reas_isByOtherSide (l1 l2 l3 : Int32) (s : Sg) : Ro :=
  if inb l2 60 = true then
  if l1 = (((2 * l2) + 1) - l3) then
    if inb (s 4 (ix l2)) 10 = true then
    if (s 2 (ix (s 4 (ix l2)))) = 0 then
      bnd (f_Clo_onStage 23 l2 (1 - l3) s) (fun v1 s1 =>
      if v1 = 0 then
        some (0, s1)
      else
        bnd (f_Clo_thereStage 23 (s 4 (ix l2)) l3 s1) (fun v2 s2 =>
        if v2 = 0 then
          some (0, s2)
        else
          some (1, s2)))
    else
      some (0, s) else none
  else
    some (0, s) else none
def f_Reas_holds (l1 l2 l3 : Int32) (s : Sg) : Ro :=
  if (l1 / 128) = 0 then
    bnd (f_Reas_isByRoot (l1 - l1 / 128 * 128) l2 l3 s) (fun v1 s1 =>
    if isb v1 = true then some (v1, s1) else none)
  else
  if (l1 / 128) = 1 then
    bnd (f_Reas_isByUser (l1 / 128) (l1 - l1 / 128 * 128) l2 l3 s) (fun v2 s2 =>
    if isb v2 = true then some (v2, s2) else none)
  else
  if (l1 / 128) = 2 then
    bnd (f_Reas_isByUser (l1 / 128) (l1 - l1 / 128 * 128) l2 l3 s) (fun v3 s3 =>
    if isb v3 = true then some (v3, s3) else none)
  else
  if (l1 / 128) = 3 then
    bnd (f_Reas_isByTurn (l1 / 128) (l1 - l1 / 128 * 128) l2 l3 s) (fun v4 s4 =>
    if isb v4 = true then some (v4, s4) else none)
  else
  if (l1 / 128) = 4 then
    bnd (f_Reas_isByTurn (l1 / 128) (l1 - l1 / 128 * 128) l2 l3 s) (fun v5 s5 =>
    if isb v5 = true then some (v5, s5) else none)
  else
  if (l1 / 128) = 5 then
    bnd (f_Reas_isByTurn (l1 / 128) (l1 - l1 / 128 * 128) l2 l3 s) (fun v6 s6 =>
    if isb v6 = true then some (v6, s6) else none)
  else
  if (l1 / 128) = 6 then
    bnd (f_Reas_isByOtherSide (l1 - l1 / 128 * 128) l2 l3 s) (fun v7 s7 =>
    if isb v7 = true then some (v7, s7) else none)
  else
  some (0, s)
def f_Reas_countOf_5  (l1 l2 : Int32) : Int32 → Int32 → Sg → Ro := itr2 (fun rec5 l3 l4 s =>
  if 896 ≤ l4 then
    some (l3, s)
  else
    bnd (f_Reas_holds l4 l1 l2 s) (fun v1 s1 =>
    if v1 = 0 then
      rec5 l3 (l4 + 1) s1
    else
      rec5 (l3 + 1) (l4 + 1) s1)) 4096
def f_Reas_countOf (l1 l2 : Int32) (s : Sg) : Ro :=
  f_Reas_countOf_5 l1 l2 0 0 s
def f_FU_reasons (l1 l2 : Int32) (s : Sg) : Ro :=
  bnd (f_FU_on l1 l2 s) (fun v1 s1 =>
  if v1 = 0 then
    some (0, s1)
  else
    bnd (f_Reas_countOf l1 l2 s1) (fun v2 s2 =>
    some (v2, s2)))
def f_Reas_find_6  (l1 l2 : Int32) : Int32 → Int32 → Sg → Ro := itr2 (fun rec6 l4 l5 s =>
  if 896 ≤ l5 then
    some ((-1), s)
  else
    if l4 < 0 then
      some ((-1), s)
    else
      bnd (f_Reas_holds l5 l1 l2 s) (fun v1 s1 =>
      if v1 = 0 then
        rec6 l4 (l5 + 1) s1
      else
        if l4 = 0 then
          some (l5, s1)
        else
          rec6 (l4 + (-1)) (l5 + 1) s1)) 4096
def f_Reas_find (l1 l2 l3 : Int32) (s : Sg) : Ro :=
  f_Reas_find_6 l1 l2 l3 0 s
def f_FU_reason (l1 l2 l3 l4 : Int32) (s : Sg) : Ro :=
  bnd (f_FU_within l4 2 s) (fun v1 s1 =>
  if v1 = 0 then
    some ((-1), s1)
  else
    bnd (f_FU_on l1 l2 s1) (fun v2 s2 =>
    if v2 = 0 then
      some ((-1), s2)
    else
      bnd (f_Reas_find l1 l2 l3 s2) (fun v3 s3 =>
      if v3 = (-1) then
        some ((-1), s3)
      else
        if l4 = 0 then
          some (v3 / 128, s3)
        else
          some (v3 - v3 / 128 * 128, s3))))
def f_Feats_exclude (l1 l2 : Int32) (s : Sg) : Ro :=
  if inb l1 60 = true then
  if (s 6 (ix l1)) = 0 then
    some (0, s)
  else
    if inb l1 60 = true then
    if inb l2 60 = true then
    if (s 6 (ix l1)) = (s 6 (ix l2)) then
      if inb l1 60 = true then
      if inb l2 60 = true then
      if (s 4 (ix l1)) = (s 4 (ix l2)) then
        some (1, s)
      else
        some (0, s) else none else none
    else
      some (0, s) else none else none else none
def f_FU_clash_69 (rec19 : Int32 → Int32 → Sg → Ro) (rec37 : Int32 → Int32 → Sg → Ro) (l2 l4 l5 : Int32) : Int32 → Int32 → Sg → Ro := itr2 (fun rec69 l3 l6 s =>
  if 2 ≤ l6 then
    rec37 l3 (l5 + 1) s
  else
    bnd (f_Clo_onStage 23 l4 l6 s) (fun v1 s1 =>
    if v1 = 0 then
      rec69 l3 (l6 + 1) s1
    else
      bnd (f_Clo_onStage 23 l5 l6 s1) (fun v2 s2 =>
      if v2 = 0 then
        rec69 l3 (l6 + 1) s2
      else
        if l3 = 0 then
          if l2 = 0 then
            some (l4, s2)
          else
            if l2 = 1 then
              some (l5, s2)
            else
              some (l6, s2)
        else
          rec69 (l3 + (-1)) (l6 + 1) s2))) 4096
def f_FU_clash_37 (rec19 : Int32 → Int32 → Sg → Ro) (l2 l4 : Int32) : Int32 → Int32 → Sg → Ro := itr2 (fun rec37 l3 l5 s =>
  if (s 3 0) ≤ l5 then
    rec19 l3 (l4 + 1) s
  else
    bnd (f_Feats_exclude l4 l5 s) (fun v1 s1 =>
    if v1 = 0 then
      rec37 l3 (l5 + 1) s1
    else
      f_FU_clash_69 rec19 rec37 l2 l4 l5 l3 0 s1)) 4096
def f_FU_clash_19  (l2 : Int32) : Int32 → Int32 → Sg → Ro := itr2 (fun rec19 l3 l4 s =>
  if (s 3 0) ≤ l4 then
    some ((-1), s)
  else
    f_FU_clash_37 rec19 l2 l4 l3 (l4 + 1) s) 4096
def f_FU_clash (l1 l2 : Int32) (s : Sg) : Ro :=
  if l1 < 0 then
    some ((-1), s)
  else
    bnd (f_FU_within l2 3 s) (fun v1 s1 =>
    if v1 = 0 then
      some ((-1), s1)
    else
      f_FU_clash_19 l2 l1 0 s1)
def f_FU_noteLeavers_20 (rec7 : Int32 → Sg → Ro) (l1 : Int32) : Int32 → Sg → Ro := itr1 (fun rec20 l2 s =>
  if 2 ≤ l2 then
    rec7 (l1 + 1) s
  else
    bnd (f_Clo_onStage 23 l1 l2 s) (fun v1 s1 =>
    if v1 = 0 then
      rec20 (l2 + 1) s1
    else
      bnd (f_Clo_onStage 26 l1 l2 s1) (fun v2 s2 =>
      if v2 = 0 then
        if inb (s2 0 9) 120 = true then
        rec20 (l2 + 1) (wr (wr s2 30 (ix (s2 0 9)) ((2 * l1) + l2)) 0 9 ((s2 0 9) + 1)) else none
      else
        rec20 (l2 + 1) s2))) 4096
def f_FU_noteLeavers_7  : Int32 → Sg → Ro := itr1 (fun rec7 l1 s =>
  if (s 3 0) ≤ l1 then
    some (0, s)
  else
    f_FU_noteLeavers_20 rec7 l1 0 s) 4096
def f_FU_noteLeavers (s : Sg) : Ro :=
  f_FU_noteLeavers_7 0 (wr s 0 9 0)
def f_FU_without (l1 l2 : Int32) (s : Sg) : Ro :=
  if (s 0 10) = 0 then
    some ((-1), s)
  else
    bnd (f_Users_has l1 s) (fun v1 s1 =>
    if v1 = 0 then
      some ((-1), s1)
    else
      bnd (f_FU_within l2 32 s1) (fun v2 s2 =>
      if v2 = 0 then
        some ((-1), s2)
      else
        if inb l1 40 = true then
        bnd (f_FU_bit (s2 22 (ix l1)) l2 s2) (fun v3 s3 =>
        if v3 = 0 then
          some ((-1), s3)
        else
          if inb l1 40 = true then
          if inb l1 40 = true then
          bnd (f_Clo_close 26 (wr s3 22 (ix l1) ((s3 22 (ix l1)) &&& ((1 <<< (l2 &&& 31)) ^^^ (-1))))) (fun v4 s4 =>
          if inb l1 40 = true then
          bnd (f_FU_noteLeavers (wr s4 22 (ix l1) (s3 22 (ix l1)))) (fun v5 s5 =>
          some (s5 0 9, s5)) else none) else none else none) else none))
def f_FU_left (l1 : Int32) (s : Sg) : Ro :=
  bnd (f_FU_within l1 (s 0 9) s) (fun v1 s1 =>
  if v1 = 0 then
    some ((-1), s1)
  else
    if inb l1 120 = true then
    some (s1 30 (ix l1), s1) else none)
def f_Mod_isPack (l1 : Int32) (s : Sg) : Ro :=
  if l1 < 0 then
    some (0, s)
  else
    if (s 31 1) ≤ l1 then
      some (0, s)
    else
      some (1, s)
def f_Mod_isUser (l1 : Int32) (s : Sg) : Ro :=
  if l1 < 0 then
    some (0, s)
  else
    if (s 31 3) ≤ l1 then
      some (0, s)
    else
      some (1, s)
def f_Mod_isFeature (l1 : Int32) (s : Sg) : Ro :=
  if l1 < 0 then
    some (0, s)
  else
    if (s 31 2) ≤ l1 then
      some (0, s)
    else
      some (1, s)
def f_Mod_pack (l1 : Int32) (s : Sg) : Ro :=
  if (s 31 1) = 10 then
    some ((-1), wr s 31 0 0)
  else
    if inb (s 31 1) 10 = true then
    if isb l1 = true then
    some (((s 31 1) + 1) - 1, wr (wr (wr (wr s 31 0 0) 32 (ix (s 31 1)) l1) 31 1 ((s 31 1) + 1)) 31 33 1) else none else none
def f_Mod_named_5  (l1 l2 : Int32) : Int32 → Int32 → Sg → Ro := itr2 (fun rec5 l3 l4 s =>
  if (s 31 2) ≤ l4 then
    some (l3, s)
  else
    if inb l4 60 = true then
    if (s 35 (ix l4)) = l1 then
      if inb l4 60 = true then
      if (s 36 (ix l4)) = l2 then
        rec5 l4 (l4 + 1) s
      else
        rec5 l3 (l4 + 1) s else none
    else
      rec5 l3 (l4 + 1) s else none) 4096
def f_Mod_named (l1 l2 : Int32) (s : Sg) : Ro :=
  f_Mod_named_5 l1 l2 (-1) 0 s
def f_Mod_many_4  (l1 : Int32) : Int32 → Int32 → Sg → Ro := itr2 (fun rec4 l2 l3 s =>
  if (s 31 2) ≤ l3 then
    some (l2, s)
  else
    if inb l3 60 = true then
    if (s 35 (ix l3)) = l1 then
      rec4 (l2 + 1) (l3 + 1) s
    else
      rec4 (l2 + 0) (l3 + 1) s else none) 4096
def f_Mod_many (l1 : Int32) (s : Sg) : Ro :=
  f_Mod_many_4 l1 0 0 s
def f_Mod_feature (l1 l2 l3 l4 : Int32) (s : Sg) : Ro :=
  bnd (f_Mod_isPack l1 (wr s 31 0 0)) (fun v1 s1 =>
  if v1 = 0 then
    some ((-1), s1)
  else
    if l2 < 0 then
      some ((-1), s1)
    else
      if 32 ≤ l2 then
        some ((-1), s1)
      else
        if l4 < 0 then
          some ((-1), s1)
        else
          if 8 ≤ l4 then
            some ((-1), s1)
          else
            if (s1 31 2) = 60 then
              some ((-1), s1)
            else
              bnd (f_Mod_many l1 s1) (fun v2 s2 =>
              if v2 = 10 then
                some ((-1), s2)
              else
                bnd (f_Mod_named l1 l2 s2) (fun v3 s3 =>
                if v3 = (-1) then
                  if inb (s3 31 2) 60 = true then
                  if inb (s3 31 2) 60 = true then
                  if inb (s3 31 2) 60 = true then
                  if inb (s3 31 2) 60 = true then
                  if isb l3 = true then
                  some (((s3 31 2) + 1) - 1, wr (wr (wr (wr (wr (wr s3 35 (ix (s3 31 2)) l1) 36 (ix (s3 31 2)) l2) 37 (ix (s3 31 2)) l4) 38 (ix (s3 31 2)) l3) 31 2 ((s3 31 2) + 1)) 31 33 1) else none else none else none else none else none
                else
                  some ((-1), s3))))
def f_Mod_root (l1 l2 : Int32) (s : Sg) : Ro :=
  bnd (f_Mod_isPack l1 (wr s 31 0 0)) (fun v1 s1 =>
  if v1 = 0 then
    some (0, s1)
  else
    if inb l1 10 = true then
    if (s1 33 (ix l1)) = 0 then
      if inb l1 10 = true then
      if isb 1 = true then
      if inb l1 10 = true then
      if isb l2 = true then
      some (1, wr (wr (wr s1 33 (ix l1) 1) 34 (ix l1) l2) 31 33 1) else none else none else none else none
    else
      some (0, s1) else none)
def f_Mod_user (l1 l2 l3 l4 l5 l6 : Int32) (s : Sg) : Ro :=
  bnd (f_Mod_isPack l1 (wr s 31 0 0)) (fun v1 s1 =>
  if v1 = 0 then
    some ((-1), s1)
  else
    bnd (f_Mod_isPack l2 s1) (fun v2 s2 =>
    if v2 = 0 then
      some ((-1), s2)
    else
      if (s2 31 3) = 40 then
        some ((-1), s2)
      else
        if inb (s2 31 3) 40 = true then
        if inb (s2 31 3) 40 = true then
        if inb (s2 31 3) 40 = true then
        if isb l3 = true then
        if inb (s2 31 3) 40 = true then
        if isb l4 = true then
        if inb (s2 31 3) 40 = true then
        if isb l5 = true then
        if inb (s2 31 3) 40 = true then
        some (((s2 31 3) + 1) - 1, wr (wr (wr (wr (wr (wr (wr (wr s2 39 (ix (s2 31 3)) l1) 40 (ix (s2 31 3)) l2) 42 (ix (s2 31 3)) l3) 43 (ix (s2 31 3)) l4) 44 (ix (s2 31 3)) l5) 41 (ix (s2 31 3)) l6) 31 3 ((s2 31 3) + 1)) 31 33 1) else none else none else none else none else none else none else none else none else none))
def f_Mod_asking_6  (l1 l2 l3 : Int32) : Int32 → Int32 → Sg → Ro := itr2 (fun rec6 l4 l5 s =>
  if l3 ≤ l5 then
    some (l4, s)
  else
    if inb l5 400 = true then
    if (s 45 (ix l5)) = l1 then
      if inb l5 400 = true then
      if (s 46 (ix l5)) = l2 then
        rec6 l5 (l5 + 1) s
      else
        rec6 l4 (l5 + 1) s else none
    else
      rec6 l4 (l5 + 1) s else none) 4096
def f_Mod_asking (l1 l2 l3 : Int32) (s : Sg) : Ro :=
  f_Mod_asking_6 l1 l2 l3 (-1) 0 s
def f_Mod_asks (l1 l2 : Int32) (s : Sg) : Ro :=
  bnd (f_Mod_isUser l1 (wr s 31 0 0)) (fun v1 s1 =>
  if v1 = 0 then
    some ((-1), s1)
  else
    if inb l1 40 = true then
    bnd (f_Mod_named (s1 40 (ix l1)) l2 s1) (fun v2 s2 =>
    if v2 = (-1) then
      some ((-2), s2)
    else
      bnd (f_Mod_asking l1 v2 (s2 31 4) s2) (fun v3 s3 =>
      if v3 = (-1) then
        if inb (s3 31 4) 400 = true then
        if inb (s3 31 4) 400 = true then
        some (1, wr (wr (wr (wr s3 45 (ix (s3 31 4)) l1) 46 (ix (s3 31 4)) v2) 31 4 ((s3 31 4) + 1)) 31 33 1) else none else none
      else
        some ((-3), s3))) else none)
def f_Mod_turn_172  (l6 : Int32) (t0 t1 : Int32) (s : Sg) : Ro :=
  if inb t1 60 = true then
  if inb (s 31 5) 60 = true then
  some (((s 31 5) + 1) - 1, wr (wr (wr (wr s 49 (ix t1) t0) 50 (ix (s 31 5)) l6) 31 5 ((s 31 5) + 1)) 31 33 1) else none else none
def f_Mod_turn_135  (l1 l2 l3 l6 : Int32) (s : Sg) : Ro :=
  if inb (s 31 5) 60 = true then
  if inb (s 31 5) 60 = true then
  if l2 = 0 then
    f_Mod_turn_172 l6 (-1) (s 31 5) (wr (wr s 47 (ix (s 31 5)) l1) 48 (ix (s 31 5)) l2)
  else
    f_Mod_turn_172 l6 l3 (s 31 5) (wr (wr s 47 (ix (s 31 5)) l1) 48 (ix (s 31 5)) l2) else none else none
def f_Mod_turn_123  (l1 l2 l3 l6 : Int32) (s : Sg) : Ro :=
  if l2 = 0 then
    if l6 = l1 then
      some ((-1), s)
    else
      f_Mod_turn_135 l1 l2 l3 l6 s
  else
    f_Mod_turn_135 l1 l2 l3 l6 s
def f_Mod_turn_110  (l1 l2 l3 : Int32) (t0 : Int32) (s : Sg) : Ro :=
  if l2 = 1 then
    f_Mod_turn_123 l1 l2 l3 t0 s
  else
    if t0 = (-1) then
      some ((-1), s)
    else
      f_Mod_turn_123 l1 l2 l3 t0 s
def f_Mod_turn_105  (l1 l2 l3 l4 : Int32) (t0 : Int32) (s : Sg) : Ro :=
  bnd (f_Mod_named t0 l4 s) (fun v1 s1 =>
  f_Mod_turn_110 l1 l2 l3 v1 s1)
def f_Mod_turn_80  (l1 l2 l3 l4 l5 : Int32) (s : Sg) : Ro :=
  if l2 = 1 then
    f_Mod_turn_110 l1 l2 l3 (-1) s
  else
    if l2 = 0 then
      f_Mod_turn_105 l1 l2 l3 l4 l5 s
    else
      if inb l3 40 = true then
      f_Mod_turn_105 l1 l2 l3 l4 (s 40 (ix l3)) s else none
def f_Mod_turn_64  (l1 l2 l3 l4 l5 : Int32) (s : Sg) : Ro :=
  if l2 = 1 then
    if inb l3 40 = true then
    if (s 44 (ix l3)) = 0 then
      some ((-1), s)
    else
      f_Mod_turn_80 l1 l2 l3 l4 l5 s else none
  else
    f_Mod_turn_80 l1 l2 l3 l4 l5 s
def f_Mod_turn (l1 l2 l3 l4 : Int32) (s : Sg) : Ro :=
  bnd (f_Mod_isFeature l1 (wr s 31 0 0)) (fun v1 s1 =>
  if v1 = 0 then
    some ((-1), s1)
  else
    if l2 < 0 then
      some ((-1), s1)
    else
      if 3 < l2 then
        some ((-1), s1)
      else
        if (s1 31 5) = 60 then
          some ((-1), s1)
        else
          if inb l1 60 = true then
          if l2 ≤ 0 then
            f_Mod_turn_64 l1 l2 l3 l4 (s1 35 (ix l1)) s1
          else
            bnd (f_Mod_isUser l3 s1) (fun v2 s2 =>
            if v2 = 0 then
              some ((-1), s2)
            else
              if inb l3 40 = true then
              if (s2 39 (ix l3)) = (s1 35 (ix l1)) then
                f_Mod_turn_64 l1 l2 l3 l4 (s1 35 (ix l1)) s2
              else
                some ((-1), s2) else none) else none)
def f_Mod_isFor (l1 : Int32) (s : Sg) : Ro :=
  if inb l1 40 = true then
  if (((s 41 (ix l1)) >>> ((s 31 30) &&& 31)) &&& 1) = 1 then
    some (1, s)
  else
    some (0, s) else none
def f_Mod_farSide (l1 l2 : Int32) (s : Sg) : Ro :=
  if inb l1 40 = true then
  if (s 43 (ix l1)) = 0 then
    some (l2, s)
  else
    some (1, s) else none
def f_Mod_came (l0 l1 : Int32) (s : Sg) : Ro :=
  if l0 ≤ 0 then
    some (0, s)
  else
    if l1 ≤ l0 then
      some (0, s)
    else
      some (1, s)
def f_Mod_comesThere_35 (rec23 : Int32 → Int32 → Sg → Ro) (l1 l2 l3 l5 : Int32) : Int32 → Int32 → Sg → Ro := itr2 (fun rec35 l4 l6 s =>
  if 2 ≤ l6 then
    rec23 l4 (l5 + 1) s
  else
    if l4 = 0 then
      bnd (f_Mod_isFor l5 s) (fun v1 s1 =>
      if v1 = 0 then
        rec35 0 (l6 + 1) s1
      else
        if inb l5 40 = true then
        if (s1 40 (ix l5)) = l1 then
          bnd (f_Mod_farSide l5 l6 s1) (fun v2 s2 =>
          if v2 = l2 then
            if inb ((2 * l5) + l6) 80 = true then
            bnd (f_Mod_came (s2 53 (ix ((2 * l5) + l6))) l3 s2) (fun v3 s3 =>
            if v3 = 0 then
              rec35 0 (l6 + 1) s3
            else
              rec35 1 (l6 + 1) s3) else none
          else
            rec35 0 (l6 + 1) s2)
        else
          rec35 0 (l6 + 1) s1 else none)
    else
      rec35 1 (l6 + 1) s) 4096
def f_Mod_comesThere_23  (l1 l2 l3 : Int32) : Int32 → Int32 → Sg → Ro := itr2 (fun rec23 l4 l5 s =>
  if (s 31 27) ≤ l5 then
    if isb l4 = true then some (l4, s) else none
  else
    f_Mod_comesThere_35 rec23 l1 l2 l3 l5 l4 0 s) 4096
def f_Mod_comesThere (l1 l2 l3 : Int32) (s : Sg) : Ro :=
  if inb l1 10 = true then
  if (s 51 (ix l1)) = 0 then
    f_Mod_comesThere_23 l1 l2 l3 0 0 s
  else
    if l2 = 0 then
      f_Mod_comesThere_23 l1 l2 l3 1 0 s
    else
      f_Mod_comesThere_23 l1 l2 l3 0 0 s else none
def f_Mod_comesLive_87 (rec51 : Int32 → Int32 → Sg → Ro) (l1 l2 l3 l5 : Int32) (s : Sg) : Ro :=
  if inb l5 60 = true then
  if (s 49 (ix l5)) = l1 then
    if inb l5 60 = true then
    if inb ((2 * (s 47 (ix l5))) + l2) 120 = true then
    bnd (f_Mod_came (s 54 (ix ((2 * (s 47 (ix l5))) + l2))) l3 s) (fun v1 s1 =>
    if v1 = 0 then
      rec51 0 (l5 + 1) s1
    else
      rec51 1 (l5 + 1) s1) else none else none
  else
    rec51 0 (l5 + 1) s else none
def f_Mod_comesLive_51  (l1 l2 l3 : Int32) : Int32 → Int32 → Sg → Ro := itr2 (fun rec51 l4 l5 s =>
  if (s 31 29) ≤ l5 then
    if isb l4 = true then some (l4, s) else none
  else
    if l4 = 0 then
      if inb l5 60 = true then
      if (s 48 (ix l5)) = 1 then
        f_Mod_comesLive_87 rec51 l1 l2 l3 l5 s
      else
        if inb l5 60 = true then
        if (s 48 (ix l5)) = 2 then
          f_Mod_comesLive_87 rec51 l1 l2 l3 l5 s
        else
          rec51 0 (l5 + 1) s else none else none
    else
      rec51 1 (l5 + 1) s) 4096
def f_Mod_comesLive (l1 l2 l3 : Int32) (s : Sg) : Ro :=
  bnd (f_Mod_isFor l1 s) (fun v1 s1 =>
  if v1 = 0 then
    some (0, s1)
  else
    if inb l1 40 = true then
    if (s1 44 (ix l1)) = 0 then
      if inb l1 40 = true then
      if inb ((2 * (s1 39 (ix l1))) + l2) 20 = true then
      bnd (f_Mod_came (s1 52 (ix ((2 * (s1 39 (ix l1))) + l2))) l3 s1) (fun v2 s2 =>
      if v2 = 0 then
        f_Mod_comesLive_51 l1 l2 l3 0 0 s2
      else
        f_Mod_comesLive_51 l1 l2 l3 1 0 s2) else none else none
    else
      f_Mod_comesLive_51 l1 l2 l3 0 0 s1 else none)
def f_Mod_tell (l1 l2 : Int32) (s : Sg) : Ro :=
  if inb (s 31 45) 400 = true then
  if inb (s 31 45) 400 = true then
  some (0, wr (wr (wr s 59 (ix (s 31 45)) l1) 60 (ix (s 31 45)) l2) 31 45 ((s 31 45) + 1)) else none else none
def f_Mod_turnsOn_86  (l2 l3 l5 l6 l7 : Int32) (t0 t1 : Int32) (s : Sg) : Ro :=
  if t1 = t0 then
    bnd (f_Mod_isFor l7 s) (fun v1 s1 =>
    if v1 = 0 then
      some (0, s1)
    else
      bnd (f_Mod_farSide l7 l2 s1) (fun v2 s2 =>
      if v2 = l5 then
        if l3 = 4 then
          some (1, s2)
        else
          if inb ((2 * l7) + l2) 80 = true then
          bnd (f_Mod_came (s2 53 (ix ((2 * l7) + l2))) l6 s2) (fun v3 s3 =>
          if isb (nz v3) = true then some (nz v3, s3) else none) else none
      else
        some (0, s2)))
  else
    some (0, s)
def f_Mod_turnsOn (l1 l2 l3 l4 l5 l6 : Int32) (s : Sg) : Ro :=
  if inb l1 60 = true then
  if inb l1 60 = true then
  if (s 50 (ix l1)) = l4 then
    if inb l1 60 = true then
    if inb ((2 * (s 47 (ix l1))) + l2) 120 = true then
    bnd (f_Mod_came (s 54 (ix ((2 * (s 47 (ix l1))) + l2))) l6 s) (fun v1 s1 =>
    if v1 = 0 then
      some (0, s1)
    else
      if l3 = 3 then
        if inb l1 60 = true then
        if (s1 48 (ix l1)) = 0 then
          if l2 = l5 then
            some (1, s1)
          else
            some (0, s1)
        else
          some (0, s1) else none
      else
        if inb l1 60 = true then
        if l3 = 4 then
          f_Mod_turnsOn_86 l2 l3 l5 l6 (s 49 (ix l1)) 2 (s1 48 (ix l1)) s1
        else
          f_Mod_turnsOn_86 l2 l3 l5 l6 (s 49 (ix l1)) 3 (s1 48 (ix l1)) s1 else none) else none else none
  else
    some (0, s) else none else none
def f_Mod_gather_281 (rec271 : Int32 → Sg → Ro) (l1 l2 l3 l5 : Int32) : Int32 → Sg → Ro := itr1 (fun rec281 l6 s =>
  if (2 * (s 31 29)) ≤ l6 then
    rec271 (l5 + 1) s
  else
    bnd (f_Mod_turnsOn (l6 / 2) (l6 - l6 / 2 * 2) l5 l1 l2 l3 s) (fun v1 s1 =>
    if v1 = 0 then
      rec281 (l6 + 1) s1
    else
      bnd (f_Mod_tell l5 l6 s1) (fun v2 s2 =>
      rec281 (l6 + 1) s2))) 4096
def f_Mod_gather_271  (l1 l2 l3 l4 : Int32) : Int32 → Sg → Ro := itr1 (fun rec271 l5 s =>
  if 6 ≤ l5 then
    if inb l4 10 = true then
    if (s 32 (ix l4)) = 0 then
      if inb ((2 * l1) + (1 - l2)) 120 = true then
      bnd (f_Mod_came (s 54 (ix ((2 * l1) + (1 - l2)))) l3 s) (fun v1 s1 =>
      if v1 = 0 then
        some (0, s1)
      else
        if inb ((2 * l4) + l2) 20 = true then
        bnd (f_Mod_came (s1 52 (ix ((2 * l4) + l2))) l3 s1) (fun v2 s2 =>
        if v2 = 0 then
          some (0, s2)
        else
          bnd (f_Mod_tell 6 ((2 * l1) + (1 - l2)) s2) (fun v3 s3 =>
          some (0, s3))) else none) else none
    else
      some (0, s) else none
  else
    f_Mod_gather_281 rec271 l1 l2 l3 l5 0 s) 4096
def f_Mod_gather_170  (l1 l2 l3 l4 : Int32) : Int32 → Sg → Ro := itr1 (fun rec170 l5 s =>
  if (2 * (s 31 27)) ≤ l5 then
    f_Mod_gather_271 l1 l2 l3 l4 3 s
  else
    if inb l1 60 = true then
    if (s 38 (ix l1)) = 0 then
      rec170 (l5 + 1) s
    else
      if inb (l5 / 2) 40 = true then
      if (s 40 (ix (l5 / 2))) = l4 then
        if inb (l5 / 2) 40 = true then
        if (s 42 (ix (l5 / 2))) = 0 then
          rec170 (l5 + 1) s
        else
          bnd (f_Mod_isFor (l5 / 2) s) (fun v1 s1 =>
          if v1 = 0 then
            rec170 (l5 + 1) s1
          else
            bnd (f_Mod_farSide (l5 / 2) (l5 - l5 / 2 * 2) s1) (fun v2 s2 =>
            if v2 = l2 then
              if inb l5 80 = true then
              bnd (f_Mod_came (s2 53 (ix l5)) l3 s2) (fun v3 s3 =>
              if v3 = 0 then
                rec170 (l5 + 1) s3
              else
                bnd (f_Mod_tell 2 l5 s3) (fun v4 s4 =>
                rec170 (l5 + 1) s4)) else none
            else
              rec170 (l5 + 1) s2)) else none
      else
        rec170 (l5 + 1) s else none else none) 4096
def f_Mod_gather_72  (l1 l2 l3 l4 : Int32) : Int32 → Sg → Ro := itr1 (fun rec72 l5 s =>
  if (2 * (s 31 27)) ≤ l5 then
    f_Mod_gather_170 l1 l2 l3 l4 0 s
  else
    bnd (f_Mod_asking (l5 / 2) l1 (s 31 28) s) (fun v1 s1 =>
    if v1 = (-1) then
      rec72 (l5 + 1) s1
    else
      if v1 = (s1 31 40) then
        rec72 (l5 + 1) s1
      else
        bnd (f_Mod_isFor (l5 / 2) s1) (fun v2 s2 =>
        if v2 = 0 then
          rec72 (l5 + 1) s2
        else
          bnd (f_Mod_farSide (l5 / 2) (l5 - l5 / 2 * 2) s2) (fun v3 s3 =>
          if v3 = l2 then
            if inb l5 80 = true then
            bnd (f_Mod_came (s3 53 (ix l5)) l3 s3) (fun v4 s4 =>
            if v4 = 0 then
              rec72 (l5 + 1) s4
            else
              bnd (f_Mod_tell 1 l5 s4) (fun v5 s5 =>
              rec72 (l5 + 1) s5)) else none
          else
            rec72 (l5 + 1) s3)))) 4096
def f_Mod_gather (l1 l2 l3 : Int32) (s : Sg) : Ro :=
  if inb l1 60 = true then
  if inb (s 35 (ix l1)) 10 = true then
  if (s 51 (ix (s 35 (ix l1)))) = 0 then
    f_Mod_gather_72 l1 l2 l3 (s 35 (ix l1)) 0 (wr s 31 45 0)
  else
    if inb (s 35 (ix l1)) 10 = true then
    if (s 34 (ix (s 35 (ix l1)))) = 0 then
      f_Mod_gather_72 l1 l2 l3 (s 35 (ix l1)) 0 (wr s 31 45 0)
    else
      if inb l1 60 = true then
      if (s 38 (ix l1)) = 0 then
        f_Mod_gather_72 l1 l2 l3 (s 35 (ix l1)) 0 (wr s 31 45 0)
      else
        if l2 = 0 then
          if inb (2 * (s 35 (ix l1))) 20 = true then
          bnd (f_Mod_came (s 52 (ix (2 * (s 35 (ix l1))))) l3 (wr s 31 45 0)) (fun v1 s1 =>
          if v1 = 0 then
            f_Mod_gather_72 l1 l2 l3 (s 35 (ix l1)) 0 s1
          else
            bnd (f_Mod_tell 0 (s 35 (ix l1)) s1) (fun v2 s2 =>
            f_Mod_gather_72 l1 l2 l3 (s 35 (ix l1)) 0 s2)) else none
        else
          f_Mod_gather_72 l1 l2 l3 (s 35 (ix l1)) 0 (wr s 31 45 0) else none else none else none else none
def f_Mod_comesOn (l1 l2 l3 : Int32) (s : Sg) : Ro :=
  bnd (f_Mod_gather l1 l2 l3 s) (fun v1 s1 =>
  if (s1 31 45) ≤ 0 then
    some (0, s1)
  else
    some (1, s1))
def f_Mod_close_184 (rec67 : Int32 → Int32 → Sg → Ro) (l1 : Int32) : Int32 → Int32 → Sg → Ro := itr2 (fun rec184 l2 l3 s =>
  if (2 * (s 31 26)) ≤ l3 then
    rec67 l1 l2 s
  else
    if inb l3 120 = true then
    if 0 < (s 54 (ix l3)) then
      rec184 l2 (l3 + 1) s
    else
      bnd (f_Mod_comesOn (l3 / 2) (l3 - l3 / 2 * 2) l1 s) (fun v1 s1 =>
      if v1 = 0 then
        rec184 l2 (l3 + 1) s1
      else
        if inb l3 120 = true then
        rec184 1 (l3 + 1) (wr s1 54 (ix l3) l1) else none) else none) 4096
def f_Mod_close_131 (rec67 : Int32 → Int32 → Sg → Ro) (l1 : Int32) : Int32 → Int32 → Sg → Ro := itr2 (fun rec131 l2 l3 s =>
  if (2 * (s 31 27)) ≤ l3 then
    f_Mod_close_184 rec67 l1 l2 0 s
  else
    if inb l3 80 = true then
    if 0 < (s 53 (ix l3)) then
      rec131 l2 (l3 + 1) s
    else
      bnd (f_Mod_comesLive (l3 / 2) (l3 - l3 / 2 * 2) l1 s) (fun v1 s1 =>
      if v1 = 0 then
        rec131 l2 (l3 + 1) s1
      else
        if inb l3 80 = true then
        rec131 1 (l3 + 1) (wr s1 53 (ix l3) l1) else none) else none) 4096
def f_Mod_close_78 (rec67 : Int32 → Int32 → Sg → Ro) (l1 : Int32) : Int32 → Int32 → Sg → Ro := itr2 (fun rec78 l2 l3 s =>
  if (2 * (s 31 25)) ≤ l3 then
    f_Mod_close_131 rec67 l1 l2 0 s
  else
    if inb l3 20 = true then
    if 0 < (s 52 (ix l3)) then
      rec78 l2 (l3 + 1) s
    else
      bnd (f_Mod_comesThere (l3 / 2) (l3 - l3 / 2 * 2) l1 s) (fun v1 s1 =>
      if v1 = 0 then
        rec78 l2 (l3 + 1) s1
      else
        if inb l3 20 = true then
        rec78 1 (l3 + 1) (wr s1 52 (ix l3) l1) else none) else none) 4096
def f_Mod_close_67  : Int32 → Int32 → Sg → Ro := itr2 (fun rec67 l1 l2 s =>
  if l2 = 0 then
    some (l1 - 1, s)
  else
    f_Mod_close_78 rec67 (l1 + 1) 0 0 s) 4096
def f_Mod_close_44  : Int32 → Sg → Ro := itr1 (fun rec44 l1 s =>
  if 120 ≤ l1 then
    f_Mod_close_67 0 1 s
  else
    if inb l1 120 = true then
    rec44 (l1 + 1) (wr s 54 (ix l1) 0) else none) 4096
def f_Mod_close_23  : Int32 → Sg → Ro := itr1 (fun rec23 l1 s =>
  if 80 ≤ l1 then
    f_Mod_close_44 0 s
  else
    if inb l1 80 = true then
    rec23 (l1 + 1) (wr s 53 (ix l1) 0) else none) 4096
def f_Mod_close_2  : Int32 → Sg → Ro := itr1 (fun rec2 l1 s =>
  if 20 ≤ l1 then
    f_Mod_close_23 0 s
  else
    if inb l1 20 = true then
    rec2 (l1 + 1) (wr s 52 (ix l1) 0) else none) 4096
def f_Mod_close (s : Sg) : Ro :=
  f_Mod_close_2 0 s
def f_Mod_run_157  (l2 : Int32) : Int32 → Sg → Ro := itr1 (fun rec157 l3 s =>
  if 120 ≤ l3 then
    some (l2, s)
  else
    if inb l3 120 = true then
    if inb l3 120 = true then
    rec157 (l3 + 1) (wr s 57 (ix l3) (s 54 (ix l3))) else none else none) 4096
def f_Mod_run_131  (l2 : Int32) : Int32 → Sg → Ro := itr1 (fun rec131 l3 s =>
  if 80 ≤ l3 then
    f_Mod_run_157 l2 0 s
  else
    if inb l3 80 = true then
    if inb l3 80 = true then
    rec131 (l3 + 1) (wr s 56 (ix l3) (s 53 (ix l3))) else none else none) 4096
def f_Mod_run_105  (l2 : Int32) : Int32 → Sg → Ro := itr1 (fun rec105 l3 s =>
  if 20 ≤ l3 then
    f_Mod_run_131 l2 0 s
  else
    if inb l3 20 = true then
    if inb l3 20 = true then
    rec105 (l3 + 1) (wr s 55 (ix l3) (s 52 (ix l3))) else none else none) 4096
def f_Mod_run_64  : Int32 → Sg → Ro := itr1 (fun rec64 l2 s =>
  if 10 ≤ l2 then
    bnd (f_Mod_close (wr (wr s 31 32 1) 31 33 0)) (fun v1 s1 =>
    f_Mod_run_105 v1 0 s1)
  else
    if inb l2 10 = true then
    if inb l2 10 = true then
    if isb (s 33 (ix l2)) = true then
    rec64 (l2 + 1) (wr s 51 (ix l2) (s 33 (ix l2))) else none else none else none) 4096
def f_Mod_run (l1 : Int32) (s : Sg) : Ro :=
  if l1 < 0 then
    some ((-1), wr s 31 0 0)
  else
    if l1 < 8 then
      f_Mod_run_64 0 (wr (wr (wr (wr (wr (wr (wr s 31 0 0) 31 30 l1) 31 25 (s 31 1)) 31 26 (s 31 2)) 31 27 (s 31 3)) 31 28 (s 31 4)) 31 29 (s 31 5))
    else
      some ((-1), wr s 31 0 0)
def f_Mod_isSide (l0 : Int32) (s : Sg) : Ro :=
  if l0 = 0 then
    some (1, s)
  else
    if l0 = 1 then
      some (1, s)
    else
      some (0, s)
def f_Mod_there (l1 l2 : Int32) (s : Sg) : Ro :=
  if l1 < 0 then
    some (0, wr s 31 0 0)
  else
    if (s 31 25) ≤ l1 then
      some (0, wr s 31 0 0)
    else
      bnd (f_Mod_isSide l2 (wr s 31 0 0)) (fun v1 s1 =>
      if v1 = 0 then
        some (0, s1)
      else
        if inb ((2 * l1) + l2) 20 = true then
        some (s1 55 (ix ((2 * l1) + l2)), s1) else none)
def f_Mod_live (l1 l2 : Int32) (s : Sg) : Ro :=
  if l1 < 0 then
    some (0, wr s 31 0 0)
  else
    if (s 31 27) ≤ l1 then
      some (0, wr s 31 0 0)
    else
      bnd (f_Mod_isSide l2 (wr s 31 0 0)) (fun v1 s1 =>
      if v1 = 0 then
        some (0, s1)
      else
        if inb ((2 * l1) + l2) 80 = true then
        some (s1 56 (ix ((2 * l1) + l2)), s1) else none)
def f_Mod_on (l1 l2 : Int32) (s : Sg) : Ro :=
  if l1 < 0 then
    some (0, wr s 31 0 0)
  else
    if (s 31 26) ≤ l1 then
      some (0, wr s 31 0 0)
    else
      bnd (f_Mod_isSide l2 (wr s 31 0 0)) (fun v1 s1 =>
      if v1 = 0 then
        some (0, s1)
      else
        if inb ((2 * l1) + l2) 120 = true then
        some (s1 57 (ix ((2 * l1) + l2)), s1) else none)
def f_Mod_reasoned_75  (l1 l2 : Int32) : Int32 → Sg → Ro := itr1 (fun rec75 l3 s =>
  if 120 ≤ l3 then
    bnd (f_Mod_gather l1 l2 1000 s) (fun v1 s1 =>
    some (1, s1))
  else
    if inb l3 120 = true then
    if inb l3 120 = true then
    rec75 (l3 + 1) (wr s 54 (ix l3) (s 57 (ix l3))) else none else none) 4096
def f_Mod_reasoned_49  (l1 l2 : Int32) : Int32 → Sg → Ro := itr1 (fun rec49 l3 s =>
  if 80 ≤ l3 then
    f_Mod_reasoned_75 l1 l2 0 s
  else
    if inb l3 80 = true then
    if inb l3 80 = true then
    rec49 (l3 + 1) (wr s 53 (ix l3) (s 56 (ix l3))) else none else none) 4096
def f_Mod_reasoned_23  (l1 l2 : Int32) : Int32 → Sg → Ro := itr1 (fun rec23 l3 s =>
  if 20 ≤ l3 then
    f_Mod_reasoned_49 l1 l2 0 s
  else
    if inb l3 20 = true then
    if inb l3 20 = true then
    rec23 (l3 + 1) (wr s 52 (ix l3) (s 55 (ix l3))) else none else none) 4096
def f_Mod_reasoned (l1 l2 : Int32) (s : Sg) : Ro :=
  if l1 < 0 then
    some (0, s)
  else
    if (s 31 26) ≤ l1 then
      some (0, s)
    else
      bnd (f_Mod_isSide l2 s) (fun v1 s1 =>
      if v1 = 0 then
        some (0, s1)
      else
        f_Mod_reasoned_23 l1 l2 0 s1)
def f_Mod_reasons (l1 l2 : Int32) (s : Sg) : Ro :=
  bnd (f_Mod_reasoned l1 l2 (wr s 31 0 0)) (fun v1 s1 =>
  if v1 = 0 then
    some (0, s1)
  else
    some (s1 31 45, s1))
def f_Mod_reason (l1 l2 l3 l4 : Int32) (s : Sg) : Ro :=
  bnd (f_Mod_reasoned l1 l2 (wr s 31 0 0)) (fun v1 s1 =>
  if v1 = 0 then
    some ((-1), s1)
  else
    if l3 < 0 then
      some ((-1), s1)
    else
      if l3 < (s1 31 45) then
        if l4 = 0 then
          if inb l3 400 = true then
          some (s1 59 (ix l3), s1) else none
        else
          if l4 = 1 then
            if inb l3 400 = true then
            some (s1 60 (ix l3), s1) else none
          else
            some ((-1), s1)
      else
        some ((-1), s1))
def f_Mod_clash_84 (rec10 : Int32 → Int32 → Sg → Ro) (rec25 : Int32 → Int32 → Sg → Ro) (l1 l2 l4 l5 : Int32) : Int32 → Int32 → Sg → Ro := itr2 (fun rec84 l3 l6 s =>
  if 2 ≤ l6 then
    rec25 l3 (l5 + 1) s
  else
    if inb ((2 * l4) + l6) 120 = true then
    if (s 57 (ix ((2 * l4) + l6))) = 0 then
      rec84 l3 (l6 + 1) s
    else
      if inb ((2 * l5) + l6) 120 = true then
      if (s 57 (ix ((2 * l5) + l6))) = 0 then
        rec84 l3 (l6 + 1) s
      else
        if l3 = l1 then
          if l2 = 0 then
            some (l4, s)
          else
            if l2 = 1 then
              some (l5, s)
            else
              if l2 = 2 then
                some (l6, s)
              else
                some ((-1), s)
        else
          rec84 (l3 + 1) (l6 + 1) s else none else none) 4096
def f_Mod_clash_25 (rec10 : Int32 → Int32 → Sg → Ro) (l1 l2 l4 : Int32) : Int32 → Int32 → Sg → Ro := itr2 (fun rec25 l3 l5 s =>
  if (s 31 26) ≤ l5 then
    rec10 l3 (l4 + 1) s
  else
    if inb l4 60 = true then
    if inb l5 60 = true then
    if (s 35 (ix l4)) = (s 35 (ix l5)) then
      if inb l4 60 = true then
      if (s 37 (ix l4)) = 0 then
        rec25 l3 (l5 + 1) s
      else
        if inb l4 60 = true then
        if inb l5 60 = true then
        if (s 37 (ix l4)) = (s 37 (ix l5)) then
          f_Mod_clash_84 rec10 rec25 l1 l2 l4 l5 l3 0 s
        else
          rec25 l3 (l5 + 1) s else none else none else none
    else
      rec25 l3 (l5 + 1) s else none else none) 4096
def f_Mod_clash_10  (l1 l2 : Int32) : Int32 → Int32 → Sg → Ro := itr2 (fun rec10 l3 l4 s =>
  if (s 31 26) ≤ l4 then
    some ((-1), s)
  else
    f_Mod_clash_25 rec10 l1 l2 l4 l3 (l4 + 1) s) 4096
def f_Mod_clash (l1 l2 : Int32) (s : Sg) : Ro :=
  f_Mod_clash_10 l1 l2 0 0 (wr s 31 0 0)
def f_Mod_without_94  : Int32 → Sg → Ro := itr1 (fun rec94 l5 s =>
  if (2 * (s 31 26)) ≤ l5 then
    some (s 31 42, s)
  else
    if inb l5 120 = true then
    if (s 57 (ix l5)) = 0 then
      rec94 (l5 + 1) s
    else
      if inb l5 120 = true then
      if (s 54 (ix l5)) ≤ 0 then
        if inb (s 31 42) 120 = true then
        rec94 (l5 + 1) (wr (wr s 58 (ix (s 31 42)) l5) 31 42 ((s 31 42) + 1)) else none
      else
        rec94 (l5 + 1) s else none else none) 4096
def f_Mod_without_60  (t0 : Int32) (s : Sg) : Ro :=
  if t0 = (-1) then
    some ((-1), s)
  else
    bnd (f_Mod_close (wr s 31 40 t0)) (fun v1 s1 =>
    f_Mod_without_94 0 (wr (wr s1 31 40 (-1)) 31 42 0))
def f_Mod_without (l1 l2 : Int32) (s : Sg) : Ro :=
  if (s 31 32) = 0 then
    some ((-1), wr s 31 0 0)
  else
    if (s 31 33) = 0 then
      bnd (f_Mod_isUser l1 (wr s 31 0 0)) (fun v1 s1 =>
      if v1 = 0 then
        some ((-1), s1)
      else
        if inb l1 40 = true then
        bnd (f_Mod_named (s1 40 (ix l1)) l2 s1) (fun v2 s2 =>
        if v2 = (-1) then
          f_Mod_without_60 (-1) s2
        else
          bnd (f_Mod_asking l1 v2 (s2 31 4) s2) (fun v3 s3 =>
          f_Mod_without_60 v3 s3)) else none)
    else
      some ((-1), wr s 31 0 0)
def f_Mod_left (l1 : Int32) (s : Sg) : Ro :=
  if l1 < 0 then
    some ((-1), wr s 31 0 0)
  else
    if l1 < (s 31 42) then
      if inb l1 120 = true then
      some (s 58 (ix l1), wr s 31 0 0) else none
    else
      some ((-1), wr s 31 0 0)
def f_Law_law_139 (L0 : Nat) (xs : Nat → Int32) (rec18 : Int32 → Sg → Ro) (l3 : Int32) (t0 t1 : Int32) (s : Sg) : Ro :=
  bnd (f_Mod_pack t0 s) (fun v1 s1 =>
  if t1 = v1 then
    rec18 (l3 + 7) s1
  else
    some (0, s1))
def f_Law_law_122 (L0 : Nat) (xs : Nat → Int32) (rec18 : Int32 → Sg → Ro) (l3 : Int32) (t0 : Int32) (s : Sg) : Ro :=
  bnd (f_FU_pack t0 s) (fun v1 s1 =>
  if inb (l3 + 1) L0 = true then
  f_Law_law_139 L0 xs rec18 l3 (nz (xs (ix (l3 + 1)))) v1 s1 else none)
def f_Law_law_203 (L0 : Nat) (xs : Nat → Int32) (rec18 : Int32 → Sg → Ro) (l3 : Int32) (t0 t1 t2 t3 : Int32) (s : Sg) : Ro :=
  if inb (l3 + 4) L0 = true then
  bnd (f_Mod_feature t2 t1 t0 (xs (ix (l3 + 4))) s) (fun v1 s1 =>
  if t3 = v1 then
    rec18 (l3 + 7) s1
  else
    some (0, s1)) else none
def f_Law_law_171 (L0 : Nat) (xs : Nat → Int32) (rec18 : Int32 → Sg → Ro) (l3 : Int32) (t0 t1 t2 : Int32) (s : Sg) : Ro :=
  if inb (l3 + 4) L0 = true then
  bnd (f_FU_feature t2 t1 t0 (xs (ix (l3 + 4))) s) (fun v1 s1 =>
  if inb (l3 + 1) L0 = true then
  if inb (l3 + 2) L0 = true then
  if inb (l3 + 3) L0 = true then
  f_Law_law_203 L0 xs rec18 l3 (nz (xs (ix (l3 + 3)))) (xs (ix (l3 + 2))) (xs (ix (l3 + 1))) v1 s1 else none else none else none) else none
def f_Law_law_257 (L0 : Nat) (xs : Nat → Int32) (rec18 : Int32 → Sg → Ro) (l3 : Int32) (t0 t1 t2 : Int32) (s : Sg) : Ro :=
  bnd (f_Mod_root t1 t0 s) (fun v1 s1 =>
  if t2 = v1 then
    rec18 (l3 + 7) s1
  else
    some (0, s1))
def f_Law_law_235 (L0 : Nat) (xs : Nat → Int32) (rec18 : Int32 → Sg → Ro) (l3 : Int32) (t0 t1 : Int32) (s : Sg) : Ro :=
  bnd (f_FU_root t1 t0 s) (fun v1 s1 =>
  if inb (l3 + 1) L0 = true then
  if inb (l3 + 2) L0 = true then
  f_Law_law_257 L0 xs rec18 l3 (nz (xs (ix (l3 + 2)))) (xs (ix (l3 + 1))) v1 s1 else none else none)
def f_Law_law_374 (L0 : Nat) (xs : Nat → Int32) (rec18 : Int32 → Sg → Ro) (l3 : Int32) (t0 t1 t2 t3 t4 t5 : Int32) (s : Sg) : Ro :=
  if inb (l3 + 6) L0 = true then
  bnd (f_Mod_user t4 t3 t2 t1 t0 (xs (ix (l3 + 6))) s) (fun v1 s1 =>
  if t5 = v1 then
    rec18 (l3 + 7) s1
  else
    some (0, s1)) else none
def f_Law_law_361 (L0 : Nat) (xs : Nat → Int32) (rec18 : Int32 → Sg → Ro) (l3 : Int32) (t0 t1 t2 t3 t4 : Int32) (s : Sg) : Ro :=
  if inb (l3 + 5) L0 = true then
  f_Law_law_374 L0 xs rec18 l3 (nz (xs (ix (l3 + 5)))) t0 t1 t2 t3 t4 s else none
def f_Law_law_348 (L0 : Nat) (xs : Nat → Int32) (rec18 : Int32 → Sg → Ro) (l3 : Int32) (t0 t1 t2 t3 : Int32) (s : Sg) : Ro :=
  if inb (l3 + 4) L0 = true then
  f_Law_law_361 L0 xs rec18 l3 (nz (xs (ix (l3 + 4)))) t0 t1 t2 t3 s else none
def f_Law_law_315 (L0 : Nat) (xs : Nat → Int32) (rec18 : Int32 → Sg → Ro) (l3 : Int32) (t0 t1 t2 t3 t4 : Int32) (s : Sg) : Ro :=
  if inb (l3 + 6) L0 = true then
  bnd (f_FU_user t4 t3 t2 t1 t0 (xs (ix (l3 + 6))) s) (fun v1 s1 =>
  if inb (l3 + 1) L0 = true then
  if inb (l3 + 2) L0 = true then
  if inb (l3 + 3) L0 = true then
  f_Law_law_348 L0 xs rec18 l3 (nz (xs (ix (l3 + 3)))) (xs (ix (l3 + 2))) (xs (ix (l3 + 1))) v1 s1 else none else none else none) else none
def f_Law_law_302 (L0 : Nat) (xs : Nat → Int32) (rec18 : Int32 → Sg → Ro) (l3 : Int32) (t0 t1 t2 t3 : Int32) (s : Sg) : Ro :=
  if inb (l3 + 5) L0 = true then
  f_Law_law_315 L0 xs rec18 l3 (nz (xs (ix (l3 + 5)))) t0 t1 t2 t3 s else none
def f_Law_law_289 (L0 : Nat) (xs : Nat → Int32) (rec18 : Int32 → Sg → Ro) (l3 : Int32) (t0 t1 t2 : Int32) (s : Sg) : Ro :=
  if inb (l3 + 4) L0 = true then
  f_Law_law_302 L0 xs rec18 l3 (nz (xs (ix (l3 + 4)))) t0 t1 t2 s else none
def f_Law_law_18 (L0 : Nat) (xs : Nat → Int32)  : Int32 → Sg → Ro := itr1 (fun rec18 l3 s =>
  if ((Int32.ofNat L0) - 7) < l3 then
    some (1, s)
  else
    if inb l3 L0 = true then
    if ((xs (ix l3)) &&& 15) = 0 then
      if inb (l3 + 1) L0 = true then
      f_Law_law_122 L0 xs rec18 l3 (nz (xs (ix (l3 + 1)))) s else none
    else
    if ((xs (ix l3)) &&& 15) = 1 then
      if inb (l3 + 1) L0 = true then
      if inb (l3 + 2) L0 = true then
      if inb (l3 + 3) L0 = true then
      f_Law_law_171 L0 xs rec18 l3 (nz (xs (ix (l3 + 3)))) (xs (ix (l3 + 2))) (xs (ix (l3 + 1))) s else none else none else none
    else
    if ((xs (ix l3)) &&& 15) = 2 then
      if inb (l3 + 1) L0 = true then
      if inb (l3 + 2) L0 = true then
      f_Law_law_235 L0 xs rec18 l3 (nz (xs (ix (l3 + 2)))) (xs (ix (l3 + 1))) s else none else none
    else
    if ((xs (ix l3)) &&& 15) = 3 then
      if inb (l3 + 1) L0 = true then
      if inb (l3 + 2) L0 = true then
      if inb (l3 + 3) L0 = true then
      f_Law_law_289 L0 xs rec18 l3 (nz (xs (ix (l3 + 3)))) (xs (ix (l3 + 2))) (xs (ix (l3 + 1))) s else none else none else none
    else
    if ((xs (ix l3)) &&& 15) = 4 then
      if inb (l3 + 1) L0 = true then
      if inb (l3 + 2) L0 = true then
      bnd (f_FU_asks (xs (ix (l3 + 1))) (xs (ix (l3 + 2))) s) (fun v1 s1 =>
      if inb (l3 + 1) L0 = true then
      if inb (l3 + 2) L0 = true then
      bnd (f_Mod_asks (xs (ix (l3 + 1))) (xs (ix (l3 + 2))) s1) (fun v2 s2 =>
      if v1 = v2 then
        rec18 (l3 + 7) s2
      else
        some (0, s2)) else none else none) else none else none
    else
    if ((xs (ix l3)) &&& 15) = 5 then
      if inb (l3 + 1) L0 = true then
      if inb (l3 + 2) L0 = true then
      if inb (l3 + 3) L0 = true then
      if inb (l3 + 4) L0 = true then
      bnd (f_FU_turn (xs (ix (l3 + 1))) (xs (ix (l3 + 2))) (xs (ix (l3 + 3))) (xs (ix (l3 + 4))) s) (fun v3 s3 =>
      if inb (l3 + 1) L0 = true then
      if inb (l3 + 2) L0 = true then
      if inb (l3 + 3) L0 = true then
      if inb (l3 + 4) L0 = true then
      bnd (f_Mod_turn (xs (ix (l3 + 1))) (xs (ix (l3 + 2))) (xs (ix (l3 + 3))) (xs (ix (l3 + 4))) s3) (fun v4 s4 =>
      if v3 = v4 then
        rec18 (l3 + 7) s4
      else
        some (0, s4)) else none else none else none else none) else none else none else none else none
    else
    if ((xs (ix l3)) &&& 15) = 6 then
      if inb (l3 + 1) L0 = true then
      bnd (f_FU_run (xs (ix (l3 + 1))) s) (fun v5 s5 =>
      if inb (l3 + 1) L0 = true then
      bnd (f_Mod_run (xs (ix (l3 + 1))) s5) (fun v6 s6 =>
      if v5 = v6 then
        rec18 (l3 + 7) s6
      else
        some (0, s6)) else none) else none
    else
    if ((xs (ix l3)) &&& 15) = 7 then
      if inb (l3 + 1) L0 = true then
      if inb (l3 + 2) L0 = true then
      bnd (f_FU_there (xs (ix (l3 + 1))) (xs (ix (l3 + 2))) s) (fun v7 s7 =>
      if inb (l3 + 1) L0 = true then
      if inb (l3 + 2) L0 = true then
      bnd (f_Mod_there (xs (ix (l3 + 1))) (xs (ix (l3 + 2))) s7) (fun v8 s8 =>
      if v7 = v8 then
        rec18 (l3 + 7) s8
      else
        some (0, s8)) else none else none) else none else none
    else
    if ((xs (ix l3)) &&& 15) = 8 then
      if inb (l3 + 1) L0 = true then
      if inb (l3 + 2) L0 = true then
      bnd (f_FU_live (xs (ix (l3 + 1))) (xs (ix (l3 + 2))) s) (fun v9 s9 =>
      if inb (l3 + 1) L0 = true then
      if inb (l3 + 2) L0 = true then
      bnd (f_Mod_live (xs (ix (l3 + 1))) (xs (ix (l3 + 2))) s9) (fun v10 s10 =>
      if v9 = v10 then
        rec18 (l3 + 7) s10
      else
        some (0, s10)) else none else none) else none else none
    else
    if ((xs (ix l3)) &&& 15) = 9 then
      if inb (l3 + 1) L0 = true then
      if inb (l3 + 2) L0 = true then
      bnd (f_FU_on (xs (ix (l3 + 1))) (xs (ix (l3 + 2))) s) (fun v11 s11 =>
      if inb (l3 + 1) L0 = true then
      if inb (l3 + 2) L0 = true then
      bnd (f_Mod_on (xs (ix (l3 + 1))) (xs (ix (l3 + 2))) s11) (fun v12 s12 =>
      if v11 = v12 then
        rec18 (l3 + 7) s12
      else
        some (0, s12)) else none else none) else none else none
    else
    if ((xs (ix l3)) &&& 15) = 10 then
      if inb (l3 + 1) L0 = true then
      if inb (l3 + 2) L0 = true then
      bnd (f_FU_reasons (xs (ix (l3 + 1))) (xs (ix (l3 + 2))) s) (fun v13 s13 =>
      if inb (l3 + 1) L0 = true then
      if inb (l3 + 2) L0 = true then
      bnd (f_Mod_reasons (xs (ix (l3 + 1))) (xs (ix (l3 + 2))) s13) (fun v14 s14 =>
      if v13 = v14 then
        rec18 (l3 + 7) s14
      else
        some (0, s14)) else none else none) else none else none
    else
    if ((xs (ix l3)) &&& 15) = 11 then
      if inb (l3 + 1) L0 = true then
      if inb (l3 + 2) L0 = true then
      if inb (l3 + 3) L0 = true then
      if inb (l3 + 4) L0 = true then
      bnd (f_FU_reason (xs (ix (l3 + 1))) (xs (ix (l3 + 2))) (xs (ix (l3 + 3))) (xs (ix (l3 + 4))) s) (fun v15 s15 =>
      if inb (l3 + 1) L0 = true then
      if inb (l3 + 2) L0 = true then
      if inb (l3 + 3) L0 = true then
      if inb (l3 + 4) L0 = true then
      bnd (f_Mod_reason (xs (ix (l3 + 1))) (xs (ix (l3 + 2))) (xs (ix (l3 + 3))) (xs (ix (l3 + 4))) s15) (fun v16 s16 =>
      if v15 = v16 then
        rec18 (l3 + 7) s16
      else
        some (0, s16)) else none else none else none else none) else none else none else none else none
    else
    if ((xs (ix l3)) &&& 15) = 12 then
      if inb (l3 + 1) L0 = true then
      if inb (l3 + 2) L0 = true then
      bnd (f_FU_clash (xs (ix (l3 + 1))) (xs (ix (l3 + 2))) s) (fun v17 s17 =>
      if inb (l3 + 1) L0 = true then
      if inb (l3 + 2) L0 = true then
      bnd (f_Mod_clash (xs (ix (l3 + 1))) (xs (ix (l3 + 2))) s17) (fun v18 s18 =>
      if v17 = v18 then
        rec18 (l3 + 7) s18
      else
        some (0, s18)) else none else none) else none else none
    else
    if ((xs (ix l3)) &&& 15) = 13 then
      if inb (l3 + 1) L0 = true then
      if inb (l3 + 2) L0 = true then
      bnd (f_FU_without (xs (ix (l3 + 1))) (xs (ix (l3 + 2))) s) (fun v19 s19 =>
      if inb (l3 + 1) L0 = true then
      if inb (l3 + 2) L0 = true then
      bnd (f_Mod_without (xs (ix (l3 + 1))) (xs (ix (l3 + 2))) s19) (fun v20 s20 =>
      if v19 = v20 then
        rec18 (l3 + 7) s20
      else
        some (0, s20)) else none else none) else none else none
    else
    if ((xs (ix l3)) &&& 15) = 14 then
      if inb (l3 + 1) L0 = true then
      bnd (f_FU_left (xs (ix (l3 + 1))) s) (fun v21 s21 =>
      if inb (l3 + 1) L0 = true then
      bnd (f_Mod_left (xs (ix (l3 + 1))) s21) (fun v22 s22 =>
      if v21 = v22 then
        rec18 (l3 + 7) s22
      else
        some (0, s22)) else none) else none
    else
    rec18 (l3 + 7) s else none) 4096
def f_Law_law (L0 : Nat) (xs : Nat → Int32) (s : Sg) : Ro :=
  f_Law_law_18 L0 xs 0 s
