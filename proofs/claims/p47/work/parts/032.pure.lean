def fJ6_compare_7cf53_J19 (N : Nat) (y0 : Int32) : Option Int32 :=
  some y0
def fJ6_compare_7cf53 (N : Nat) (p0 : Int32) (p1 : Int32) : Option Int32 :=
  if p1 ≤ p0 then
    if p0 = p1 then
      fJ6_compare_7cf53_J19 N (0 : Int32)
    else
      fJ6_compare_7cf53_J19 N (1 : Int32)
  else
    fJ6_compare_7cf53_J19 N (-1 : Int32)
def fX8_checkArgument_J10 (N : Nat) : Option (Nat ⊕ Unit) :=
  some (.inl 1)
def fX8_checkArgument (N : Nat) (p0 : Int32) (p1 : Int32) (p2 : Int32) : Option (Nat ⊕ Unit) :=
  if p0 < p1 then
    fX8_checkArgument_J10 N
  else
    if p0 ≤ p2 then
      some (.inr ())
    else
      fX8_checkArgument_J10 N
def fX2_count (N : Nat) (Tn : Int32) : Option Int32 :=
  some Tn
def fX8_checkRoom (N : Nat) (Tn : Int32) (p1 : Int32) : Option (Nat ⊕ Unit) :=
  bn (fX2_count N Tn) (fun v4 =>
    if (v4 + p1) ≤ (64 : Int32) then
      some (.inr ())
    else
      some (.inl 2))
def fX8_at_J17 (N : Nat) (gn : Nat) (gf : Nat → Int32) (y0 : Int32) : Option Int32 :=
  some y0
def fX8_at_J16 (N : Nat) (gn : Nat) (gf : Nat → Int32) : Option Int32 :=
  fX8_at_J17 N gn gf (0 : Int32)
def fX8_at (N : Nat) (gn : Nat) (gf : Nat → Int32) (p1 : Int32) : Option Int32 :=
  if p1 < 0 then
    fX8_at_J16 N gn gf
  else
    if (Int32.ofNat gn) ≤ p1 then
      fX8_at_J16 N gn gf
    else
      gd (inb p1 gn) (
        fX8_at_J17 N gn gf (gf (p1).toNatClampNeg))
def fX8_put_J14 (N : Nat) (gn : Nat) (gf : (Nat → Int32)) : Option (Nat → Int32) :=
  some gf
def fX8_put (N : Nat) (gn : Nat) (gf : Nat → Int32) (p1 : Int32) (p2 : Int32) : Option (Nat → Int32) :=
  if p1 < 0 then
    fX8_put_J14 N gn gf
  else
    if (Int32.ofNat gn) ≤ p1 then
      fX8_put_J14 N gn gf
    else
      gd (inb p1 gn) (
        fX8_put_J14 N gn (upd gf (p1).toNatClampNeg p2))
def fX2_open_J62 (N : Nat) (Tn : Int32) (Ta : (Nat → Int32)) : Option (Int32 × (Nat → Int32)) :=
  some (Tn, Ta)
def fX2_open_J43 (N : Nat) (Tn : Int32) (Ta : (Nat → Int32)) (x1 : Int32) (x2 : Int32) : Option (Int32 × (Nat → Int32)) :=
  bn (fX8_put N 64 Ta x1 x2) (fun v49 =>
    fX2_open_J62 N (Tn + (1 : Int32)) v49)
def fX2_open_B14 (N : Nat) (k14 : Int32 → (Nat → Int32) → Int32 → Int32 → Int32 → Option (Int32 × (Nat → Int32))) (Tn : Int32) (Ta : (Nat → Int32)) (x1 : Int32) (x2 : Int32) (x3 : Int32) : Option (Int32 × (Nat → Int32)) :=
  if x3 ≤ x1 then
    fX2_open_J43 N Tn Ta x1 x2
  else
    bn (fX8_at N 64 Ta (x3 - (1 : Int32))) (fun v31 =>
      bn (fX8_put N 64 Ta x3 v31) (fun v34 =>
        k14 Tn v34 x1 x2 (x3 + (-1 : Int32))))
def fX2_open_H14 (N : Nat) : Nat → Int32 → (Nat → Int32) → Int32 → Int32 → Int32 → Option (Int32 × (Nat → Int32))
  | 0, _, _, _, _, _ => none
  | n + 1, Tn, Ta, x1, x2, x3 => fX2_open_B14 N (fX2_open_H14 N n) Tn Ta x1 x2 x3
def fX2_open (N : Nat) (Tn : Int32) (Ta : (Nat → Int32)) (p1 : Int32) (p2 : Int32) : Option (Int32 × (Nat → Int32)) :=
  if (64 : Int32) ≤ Tn then
    fX2_open_J62 N Tn Ta
  else
    fX2_open_H14 N N Tn Ta p1 p2 Tn
def fX2_push (N : Nat) (Tn : Int32) (Ta : (Nat → Int32)) (p1 : Int32) : Option (Int32 × (Nat → Int32)) :=
  bn (fX2_open N Tn Ta Tn p1) (fun v6 =>
    some (v6.1, v6.2))
def fX8_append (N : Nat) (Tn : Int32) (Ta : (Nat → Int32)) (p1 : Int32) : Option ((Nat × Int32 × (Nat → Int32)) ⊕ (Int32 × Int32 × (Nat → Int32))) :=
  bx (fX8_checkArgument N p1 (0 : Int32) (25 : Int32)) (fun z4 => some (.inl (z4, Tn, Ta))) (fun v4 =>
    bx (fX8_checkRoom N Tn (1 : Int32)) (fun z9 => some (.inl (z9, Tn, Ta))) (fun v9 =>
      bn (fX2_push N Tn Ta p1) (fun v17 =>
        bn (fX2_count N v17.1) (fun v24 =>
          some (.inr (v24, v17.1, v17.2))))))
def fX8_checkIndex_J9 (N : Nat) : Option (Nat ⊕ Unit) :=
  some (.inl 0)
def fX8_checkIndex (N : Nat) (p0 : Int32) (p1 : Int32) : Option (Nat ⊕ Unit) :=
  if p0 < 0 then
    fX8_checkIndex_J9 N
  else
    if p0 < p1 then
      some (.inr ())
    else
      fX8_checkIndex_J9 N
def fX8_insert (N : Nat) (Tn : Int32) (Ta : (Nat → Int32)) (p1 : Int32) (p2 : Int32) : Option ((Nat × Int32 × (Nat → Int32)) ⊕ (Int32 × Int32 × (Nat → Int32))) :=
  bn (fX2_count N Tn) (fun v5 =>
    bx (fX8_checkIndex N p1 (v5 + (1 : Int32))) (fun z10 => some (.inl (z10, Tn, Ta))) (fun v10 =>
      bx (fX8_checkArgument N p2 (0 : Int32) (25 : Int32)) (fun z17 => some (.inl (z17, Tn, Ta))) (fun v17 =>
        bx (fX8_checkRoom N Tn (1 : Int32)) (fun z22 => some (.inl (z22, Tn, Ta))) (fun v22 =>
          bn (fX2_open N Tn Ta p1 p2) (fun v31 =>
            bn (fX2_count N v31.1) (fun v38 =>
              some (.inr (v38, v31.1, v31.2))))))))
def fX2_letter (N : Nat) (Tn : Int32) (Ta : (Nat → Int32)) (p1 : Int32) : Option Int32 :=
  bn (fX8_at N 64 Ta p1) (fun v5 =>
    some v5)
def fX2_write (N : Nat) (Tn : Int32) (Ta : (Nat → Int32)) (p1 : Int32) (p2 : Int32) : Option (Nat → Int32) :=
  bn (fX8_put N 64 Ta p1 p2) (fun v6 =>
    some v6)
def fX8_set (N : Nat) (Tn : Int32) (Ta : (Nat → Int32)) (p1 : Int32) (p2 : Int32) : Option ((Nat × (Nat → Int32)) ⊕ (Int32 × (Nat → Int32))) :=
  bn (fX2_count N Tn) (fun v5 =>
    bx (fX8_checkIndex N p1 v5) (fun z8 => some (.inl (z8, Ta))) (fun v8 =>
      bx (fX8_checkArgument N p2 (0 : Int32) (25 : Int32)) (fun z15 => some (.inl (z15, Ta))) (fun v15 =>
        bn (fX2_letter N Tn Ta p1) (fun v23 =>
          bn (fX2_write N Tn Ta p1 p2) (fun v33 =>
            some (.inr (v23, v33)))))))
def fX2_take_J45 (N : Nat) (Tn : Int32) (Ta : (Nat → Int32)) (x2 : Int32) : Option (Int32 × Int32 × (Nat → Int32)) :=
  some (x2, (Tn - (1 : Int32)), Ta)
def fX2_take_B13 (N : Nat) (k13 : Int32 → (Nat → Int32) → Int32 → Int32 → Option (Int32 × Int32 × (Nat → Int32))) (Tn : Int32) (Ta : (Nat → Int32)) (x2 : Int32) (x3 : Int32) : Option (Int32 × Int32 × (Nat → Int32)) :=
  if Tn ≤ x3 then
    fX2_take_J45 N Tn Ta x2
  else
    bn (fX8_at N 64 Ta x3) (fun v33 =>
      bn (fX8_put N 64 Ta (x3 - (1 : Int32)) v33) (fun v36 =>
        k13 Tn v36 x2 (x3 + 1)))
def fX2_take_H13 (N : Nat) : Nat → Int32 → (Nat → Int32) → Int32 → Int32 → Option (Int32 × Int32 × (Nat → Int32))
  | 0, _, _, _, _ => none
  | n + 1, Tn, Ta, x2, x3 => fX2_take_B13 N (fX2_take_H13 N n) Tn Ta x2 x3
def fX2_take (N : Nat) (Tn : Int32) (Ta : (Nat → Int32)) (p1 : Int32) : Option (Int32 × Int32 × (Nat → Int32)) :=
  bn (fX8_at N 64 Ta p1) (fun v5 =>
    fX2_take_H13 N N Tn Ta v5 (p1 + (1 : Int32)))
def fX8_remove (N : Nat) (Tn : Int32) (Ta : (Nat → Int32)) (p1 : Int32) : Option ((Nat × Int32 × (Nat → Int32)) ⊕ (Int32 × Int32 × (Nat → Int32))) :=
  bn (fX2_count N Tn) (fun v5 =>
    bx (fX8_checkIndex N p1 v5) (fun z8 => some (.inl (z8, Tn, Ta))) (fun v8 =>
      bn (fX2_take N Tn Ta p1) (fun v16 =>
        some (.inr (v16.1, v16.2.1, v16.2.2)))))
def fX2_empty (N : Nat) (Tn : Int32) : Option Int32 :=
  some (0 : Int32)
def fX8_clear (N : Nat) (Tn : Int32) : Option (Int32 × Int32) :=
  bn (fX2_count N Tn) (fun v4 =>
    bn (fX2_empty N Tn) (fun v12 =>
      some (v4, v12)))
def fX2_turn_J65 (N : Nat) (Tn : Int32) (Ta : (Nat → Int32)) : Option (Nat → Int32) :=
  some Ta
def fX2_turn_B2 (N : Nat) (Tn : Int32) (k2 : (Nat → Int32) → Int32 → Int32 → Int32 → Option (Nat → Int32)) (Ta : (Nat → Int32)) (x1 : Int32) (x2 : Int32) (x3 : Int32) : Option (Nat → Int32) :=
  gd (nz (2 : Int32)) (
    if ((x2 - x1) / (2 : Int32)) ≤ x3 then
      fX2_turn_J65 N Tn Ta
    else
      bn (fX8_at N 64 Ta (x1 + x3)) (fun v18 =>
        bn (fX8_at N 64 Ta ((x2 - (1 : Int32)) - x3)) (fun v39 =>
          bn (fX8_put N 64 Ta (x1 + x3) v39) (fun v42 =>
            bn (fX8_put N 64 v42 ((x2 - (1 : Int32)) - x3) v18) (fun v56 =>
              k2 v56 x1 x2 (x3 + 1))))))
def fX2_turn_H2 (N : Nat) (Tn : Int32) : Nat → (Nat → Int32) → Int32 → Int32 → Int32 → Option (Nat → Int32)
  | 0, _, _, _, _ => none
  | n + 1, Ta, x1, x2, x3 => fX2_turn_B2 N Tn (fX2_turn_H2 N Tn n) Ta x1 x2 x3
def fX2_turn (N : Nat) (Tn : Int32) (Ta : (Nat → Int32)) (p1 : Int32) (p2 : Int32) : Option (Nat → Int32) :=
  fX2_turn_H2 N Tn N Ta p1 p2 (0 : Int32)
def fX8_reverse (N : Nat) (Tn : Int32) (Ta : (Nat → Int32)) : Option (Int32 × (Nat → Int32)) :=
  bn (fX2_count N Tn) (fun v9 =>
    bn (fX2_turn N Tn Ta (0 : Int32) v9) (fun v12 =>
      bn (fX2_count N Tn) (fun v19 =>
        some (v19, v12))))
def fX8_rotate (N : Nat) (Tn : Int32) (Ta : (Nat → Int32)) (p1 : Int32) : Option ((Nat × (Nat → Int32)) ⊕ (Int32 × (Nat → Int32))) :=
  bx (fX8_checkArgument N p1 (0 : Int32) (63 : Int32)) (fun z4 => some (.inl (z4, Ta))) (fun v4 =>
    bn (fX2_count N Tn) (fun v11 =>
      if v11 = 0 then
        some (.inl (2, Ta))
      else
        gd (nz v11) (
          bn (fX2_turn N Tn Ta (0 : Int32) (p1 - p1 / v11 * v11)) (fun v39 =>
            bn (fX2_turn N Tn v39 (p1 - p1 / v11 * v11) v11) (fun v48 =>
              bn (fX2_turn N Tn v48 (0 : Int32) v11) (fun v57 =>
                bn (fX2_letter N Tn v57 (0 : Int32)) (fun v65 =>
                  some (.inr (v65, v57)))))))))
def fX8_checkPart_J20 (N : Nat) (Tn : Int32) : Option (Nat ⊕ Unit) :=
  some (.inl 0)
def fX8_checkPart (N : Nat) (Tn : Int32) (p1 : Int32) (p2 : Int32) : Option (Nat ⊕ Unit) :=
  if p1 < 0 then
    fX8_checkPart_J20 N Tn
  else
    if p2 ≤ p1 then
      fX8_checkPart_J20 N Tn
    else
      bn (fX2_count N Tn) (fun v14 =>
        if p2 ≤ v14 then
          some (.inr ())
        else
          fX8_checkPart_J20 N Tn)
def fX8_appendPart_J41 (N : Nat) (Tn : Int32) (Ta : (Nat → Int32)) : Option ((Nat × Int32 × (Nat → Int32)) ⊕ (Int32 × Int32 × (Nat → Int32))) :=
  bn (fX2_count N Tn) (fun v45 =>
    some (.inr (v45, Tn, Ta)))
def fX8_appendPart_B15 (N : Nat) (k15 : Int32 → (Nat → Int32) → Int32 → Int32 → Option ((Nat × Int32 × (Nat → Int32)) ⊕ (Int32 × Int32 × (Nat → Int32)))) (Tn : Int32) (Ta : (Nat → Int32)) (x2 : Int32) (x3 : Int32) : Option ((Nat × Int32 × (Nat → Int32)) ⊕ (Int32 × Int32 × (Nat → Int32))) :=
  if x2 ≤ x3 then
    fX8_appendPart_J41 N Tn Ta
  else
    bn (fX2_letter N Tn Ta x3) (fun v29 =>
      bn (fX2_push N Tn Ta v29) (fun v32 =>
        k15 v32.1 v32.2 x2 (x3 + 1)))
def fX8_appendPart_H15 (N : Nat) : Nat → Int32 → (Nat → Int32) → Int32 → Int32 → Option ((Nat × Int32 × (Nat → Int32)) ⊕ (Int32 × Int32 × (Nat → Int32)))
  | 0, _, _, _, _ => none
  | n + 1, Tn, Ta, x2, x3 => fX8_appendPart_B15 N (fX8_appendPart_H15 N n) Tn Ta x2 x3
def fX8_appendPart (N : Nat) (Tn : Int32) (Ta : (Nat → Int32)) (p1 : Int32) (p2 : Int32) : Option ((Nat × Int32 × (Nat → Int32)) ⊕ (Int32 × Int32 × (Nat → Int32))) :=
  bx (fX8_checkPart N Tn p1 p2) (fun z3 => some (.inl (z3, Tn, Ta))) (fun v3 =>
    bx (fX8_checkRoom N Tn (p2 - p1)) (fun z10 => some (.inl (z10, Tn, Ta))) (fun v10 =>
      fX8_appendPart_H15 N N Tn Ta p2 p1))
def fX4_power_J22 (N : Nat) (x2 : Int64) : Option Int64 :=
  some x2
def fX4_power_B5 (N : Nat) (k5 : Int32 → Int32 → Int64 → Int32 → Option Int64) (x0 : Int32) (x1 : Int32) (x2 : Int64) (x4 : Int32) : Option Int64 :=
  if x1 ≤ x4 then
    fX4_power_J22 N x2
  else
    k5 x0 x1 (x2 * (x0).toInt64) (x4 + 1)
def fX4_power_H5 (N : Nat) : Nat → Int32 → Int32 → Int64 → Int32 → Option Int64
  | 0, _, _, _, _ => none
  | n + 1, x0, x1, x2, x4 => fX4_power_B5 N (fX4_power_H5 N n) x0 x1 x2 x4
def fX4_power (N : Nat) (p0 : Int32) (p1 : Int32) : Option Int64 :=
  fX4_power_H5 N N p0 p1 (1 : Int64) (0 : Int32)
def fX3_begin (N : Nat) (Wg : Int32) (Wz : Int32) (Ww : Int32) (Wr : Int32) (p1 : Int32) (p2 : Int32) : Option (Int32 × Int32 × Int32 × Int32) :=
  some ((p1 - (1 : Int32)), p2, (0 : Int32), (1 : Int32))
def fX3_root (N : Nat) (Wg : Int32) (Wz : Int32) (Ww : Int32) (Wr : Int32) : Option Int32 :=
  some Wr
def fX3_letter (N : Nat) (Wg : Int32) (Wz : Int32) (Ww : Int32) (Wr : Int32) (p1 : Int32) : Option Int32 :=
  some ((Ww >>> (((3 : Int32) * ((Wz - (1 : Int32)) - p1)) &&& 31)) &&& (7 : Int32))
def fX8_pushFromWalk_J28 (N : Nat) (Wg : Int32) (Wz : Int32) (Ww : Int32) (Wr : Int32) (Tn : Int32) (Ta : (Nat → Int32)) : Option (Int32 × (Nat → Int32)) :=
  some (Tn, Ta)
def fX8_pushFromWalk_B2 (N : Nat) (Wg : Int32) (Wz : Int32) (Ww : Int32) (Wr : Int32) (k2 : Int32 → (Nat → Int32) → Int32 → Int32 → Option (Int32 × (Nat → Int32))) (Tn : Int32) (Ta : (Nat → Int32)) (x1 : Int32) (x2 : Int32) : Option (Int32 × (Nat → Int32)) :=
  if x1 ≤ x2 then
    fX8_pushFromWalk_J28 N Wg Wz Ww Wr Tn Ta
  else
    bn (fX3_letter N Wg Wz Ww Wr x2) (fun v16 =>
      bn (fX2_push N Tn Ta v16) (fun v19 =>
        k2 v19.1 v19.2 x1 (x2 + 1)))
def fX8_pushFromWalk_H2 (N : Nat) (Wg : Int32) (Wz : Int32) (Ww : Int32) (Wr : Int32) : Nat → Int32 → (Nat → Int32) → Int32 → Int32 → Option (Int32 × (Nat → Int32))
  | 0, _, _, _, _ => none
  | n + 1, Tn, Ta, x1, x2 => fX8_pushFromWalk_B2 N Wg Wz Ww Wr (fX8_pushFromWalk_H2 N Wg Wz Ww Wr n) Tn Ta x1 x2
def fX8_pushFromWalk (N : Nat) (Tn : Int32) (Ta : (Nat → Int32)) (Wg : Int32) (Wz : Int32) (Ww : Int32) (Wr : Int32) (p1 : Int32) : Option (Int32 × (Nat → Int32)) :=
  fX8_pushFromWalk_H2 N Wg Wz Ww Wr N Tn Ta p1 (0 : Int32)
def fX3_pack (N : Nat) (p0 : Int32) (p1 : Int32) : Option Int32 :=
  some ((p0 <<< ((3 : Int32) &&& 31)) ||| (p1 &&& (7 : Int32)))
def fX3_toNextWord_J93 (N : Nat) (Wg : Int32) (Wz : Int32) (Ww : Int32) (Wr : Int32) : Option (Int32 × Int32 × Int32) :=
  gd (isB (1 : Int32)) (some ((1 : Int32), Ww, Wr))
def fX3_toNextWord_B55 (N : Nat) (Wg : Int32) (Wz : Int32) (k55 : Int32 → Int32 → Int32 → Option (Int32 × Int32 × Int32)) (Ww : Int32) (Wr : Int32) (x3 : Int32) : Option (Int32 × Int32 × Int32) :=
  if Wz ≤ x3 then
    fX3_toNextWord_J93 N Wg Wz Ww Wr
  else
    bn (fX3_pack N Ww (Ww >>> (((3 : Int32) * (Wr - (1 : Int32))) &&& 31))) (fun v81 =>
      k55 v81 Wr (x3 + 1))
def fX3_toNextWord_H55 (N : Nat) (Wg : Int32) (Wz : Int32) : Nat → Int32 → Int32 → Int32 → Option (Int32 × Int32 × Int32)
  | 0, _, _, _ => none
  | n + 1, Ww, Wr, x3 => fX3_toNextWord_B55 N Wg Wz (fX3_toNextWord_H55 N Wg Wz n) Ww Wr x3
def fX3_toNextWord_J35 (N : Nat) (Wg : Int32) (Wz : Int32) (Ww : Int32) (Wr : Int32) (x1 : Int32) (x2 : Int32) : Option (Int32 × Int32 × Int32) :=
  if x2 = 0 then
    gd (isB (0 : Int32)) (some ((0 : Int32), Ww, Wr))
  else
    fX3_toNextWord_H55 N Wg Wz N (x1 + (1 : Int32)) x2 x2
def fX3_toNextWord_B10 (N : Nat) (Wg : Int32) (Wz : Int32) (k10 : Int32 → Int32 → Int32 → Int32 → Option (Int32 × Int32 × Int32)) (Ww : Int32) (Wr : Int32) (x1 : Int32) (x2 : Int32) : Option (Int32 × Int32 × Int32) :=
  if x2 ≤ 0 then
    fX3_toNextWord_J35 N Wg Wz Ww Wr x1 x2
  else
    if (x1 &&& (7 : Int32)) = Wg then
      k10 Ww Wr (x1 >>> ((3 : Int32) &&& 31)) (x2 + (-1 : Int32))
    else
      fX3_toNextWord_J35 N Wg Wz Ww Wr x1 x2
def fX3_toNextWord_H10 (N : Nat) (Wg : Int32) (Wz : Int32) : Nat → Int32 → Int32 → Int32 → Int32 → Option (Int32 × Int32 × Int32)
  | 0, _, _, _, _ => none
  | n + 1, Ww, Wr, x1, x2 => fX3_toNextWord_B10 N Wg Wz (fX3_toNextWord_H10 N Wg Wz n) Ww Wr x1 x2
def fX3_toNextWord (N : Nat) (Wg : Int32) (Wz : Int32) (Ww : Int32) (Wr : Int32) : Option (Int32 × Int32 × Int32) :=
  fX3_toNextWord_H10 N Wg Wz N Ww Wr Ww Wz
def fX3_toNextNecklace_J42 (N : Nat) (Wg : Int32) (Wz : Int32) (Ww : Int32) (Wr : Int32) : Option (Int32 × Int32 × Int32) :=
  gd (isB (0 : Int32)) (some ((0 : Int32), Ww, Wr))
def fX3_toNextNecklace_J34 (N : Nat) (Wg : Int32) (Wz : Int32) (Ww : Int32) (Wr : Int32) : Option (Int32 × Int32 × Int32) :=
  gd (isB (1 : Int32)) (some ((1 : Int32), Ww, Wr))
def fX3_toNextNecklace_J36 (N : Nat) (Wg : Int32) (Wz : Int32) (k2 : Int32 → Int32 → Int32 → Option (Int32 × Int32 × Int32)) (Ww : Int32) (Wr : Int32) (x1 : Int32) : Option (Int32 × Int32 × Int32) :=
  k2 Ww Wr (x1 + 1)
def fX3_toNextNecklace_B2 (N : Nat) (Wg : Int32) (Wz : Int32) (k2 : Int32 → Int32 → Int32 → Option (Int32 × Int32 × Int32)) (Ww : Int32) (Wr : Int32) (x1 : Int32) : Option (Int32 × Int32 × Int32) :=
  if (1048576 : Int32) ≤ x1 then
    fX3_toNextNecklace_J42 N Wg Wz Ww Wr
  else
    bn (fX3_toNextWord N Wg Wz Ww Wr) (fun v9 =>
      if v9.1 = 0 then
        fX3_toNextNecklace_J42 N Wg Wz v9.2.1 v9.2.2
      else
        if v9.2.2 ≤ 0 then
          fX3_toNextNecklace_J36 N Wg Wz k2 v9.2.1 v9.2.2 x1
        else
          gd (nz v9.2.2) (
            if (Wz - Wz / v9.2.2 * v9.2.2) = 0 then
              fX3_toNextNecklace_J34 N Wg Wz v9.2.1 v9.2.2
            else
              fX3_toNextNecklace_J36 N Wg Wz k2 v9.2.1 v9.2.2 x1))
def fX3_toNextNecklace_H2 (N : Nat) (Wg : Int32) (Wz : Int32) : Nat → Int32 → Int32 → Int32 → Option (Int32 × Int32 × Int32)
  | 0, _, _, _ => none
  | n + 1, Ww, Wr, x1 => fX3_toNextNecklace_B2 N Wg Wz (fX3_toNextNecklace_H2 N Wg Wz n) Ww Wr x1
def fX3_toNextNecklace (N : Nat) (Wg : Int32) (Wz : Int32) (Ww : Int32) (Wr : Int32) : Option (Int32 × Int32 × Int32) :=
  fX3_toNextNecklace_H2 N Wg Wz N Ww Wr (0 : Int32)
def fX8_loadDeBruijn_J93 (N : Nat) (Tn : Int32) (Ta : (Nat → Int32)) (Wg : Int32) (Wz : Int32) (Ww : Int32) (Wr : Int32) : Option ((Nat × Int32 × (Nat → Int32) × Int32 × Int32 × Int32 × Int32) ⊕ (Int32 × Int32 × (Nat → Int32) × Int32 × Int32 × Int32 × Int32)) :=
  bn (fX2_count N Tn) (fun v97 =>
    some (.inr (v97, Tn, Ta, Wg, Wz, Ww, Wr)))
def fX8_loadDeBruijn_B57 (N : Nat) (k57 : Int32 → (Nat → Int32) → Int32 → Int32 → Int32 → Int32 → Int32 → Int32 → Option ((Nat × Int32 × (Nat → Int32) × Int32 × Int32 × Int32 × Int32) ⊕ (Int32 × Int32 × (Nat → Int32) × Int32 × Int32 × Int32 × Int32))) (Tn : Int32) (Ta : (Nat → Int32)) (Wg : Int32) (Wz : Int32) (Ww : Int32) (Wr : Int32) (x3 : Int32) (x4 : Int32) : Option ((Nat × Int32 × (Nat → Int32) × Int32 × Int32 × Int32 × Int32) ⊕ (Int32 × Int32 × (Nat → Int32) × Int32 × Int32 × Int32 × Int32)) :=
  if x3 = 0 then
    fX8_loadDeBruijn_J93 N Tn Ta Wg Wz Ww Wr
  else
    if (64 : Int32) ≤ x4 then
      fX8_loadDeBruijn_J93 N Tn Ta Wg Wz Ww Wr
    else
      bn (fX3_root N Wg Wz Ww Wr) (fun v73 =>
        bn (fX8_pushFromWalk N Tn Ta Wg Wz Ww Wr v73) (fun v76 =>
          bn (fX3_toNextNecklace N Wg Wz Ww Wr) (fun v83 =>
            k57 v76.1 v76.2 Wg Wz v83.2.1 v83.2.2 v83.1 (x4 + 1))))
def fX8_loadDeBruijn_H57 (N : Nat) : Nat → Int32 → (Nat → Int32) → Int32 → Int32 → Int32 → Int32 → Int32 → Int32 → Option ((Nat × Int32 × (Nat → Int32) × Int32 × Int32 × Int32 × Int32) ⊕ (Int32 × Int32 × (Nat → Int32) × Int32 × Int32 × Int32 × Int32))
  | 0, _, _, _, _, _, _, _, _ => none
  | n + 1, Tn, Ta, Wg, Wz, Ww, Wr, x3, x4 => fX8_loadDeBruijn_B57 N (fX8_loadDeBruijn_H57 N n) Tn Ta Wg Wz Ww Wr x3 x4
def fX8_loadDeBruijn (N : Nat) (Tn : Int32) (Ta : (Nat → Int32)) (Wg : Int32) (Wz : Int32) (Ww : Int32) (Wr : Int32) (p1 : Int32) (p2 : Int32) : Option ((Nat × Int32 × (Nat → Int32) × Int32 × Int32 × Int32 × Int32) ⊕ (Int32 × Int32 × (Nat → Int32) × Int32 × Int32 × Int32 × Int32)) :=
  bx (fX8_checkArgument N p1 (1 : Int32) (8 : Int32)) (fun z4 => some (.inl (z4, Tn, Ta, Wg, Wz, Ww, Wr))) (fun v4 =>
    bx (fX8_checkArgument N p2 (1 : Int32) (6 : Int32)) (fun z11 => some (.inl (z11, Tn, Ta, Wg, Wz, Ww, Wr))) (fun v11 =>
      bn (fX4_power N p1 p2) (fun v16 =>
        if (lg_cmp v16 (64 : Int64)) ≤ 0 then
          bn (fX2_empty N Tn) (fun v40 =>
            bn (fX3_begin N Wg Wz Ww Wr p1 p2) (fun v49 =>
              fX8_loadDeBruijn_H57 N N v40 Ta v49.1 v49.2.1 v49.2.2.1 v49.2.2.2 (1 : Int32) (0 : Int32)))
        else
          some (.inl (1, Tn, Ta, Wg, Wz, Ww, Wr)))))
def fX4_moebius_J38 (N : Nat) (x2 : Int32) : Option Int32 :=
  some x2
def fX4_moebius_J30 (N : Nat) : Option Int32 :=
  some (0 : Int32)
def fX4_moebius_J32 (N : Nat) (k6 : Int32 → Int32 → Int32 → Int32 → Option Int32) (x0 : Int32) (x1 : Int32) (x2 : Int32) (x3 : Int32) : Option Int32 :=
  k6 x0 x1 x2 (x3 + 1)
def fX4_moebius_B6 (N : Nat) (k6 : Int32 → Int32 → Int32 → Int32 → Option Int32) (x0 : Int32) (x1 : Int32) (x2 : Int32) (x3 : Int32) : Option Int32 :=
  if x0 < x3 then
    fX4_moebius_J38 N x2
  else
    gd (nz x3) (
      if (x1 - x1 / x3 * x3) = 0 then
        gd (nz x3) (
          gd (nz x3) (
            if ((x1 / x3) - (x1 / x3) / x3 * x3) = 0 then
              fX4_moebius_J30 N
            else
              fX4_moebius_J32 N k6 x0 (x1 / x3) (-x2) x3))
      else
        fX4_moebius_J32 N k6 x0 x1 x2 x3)
def fX4_moebius_H6 (N : Nat) : Nat → Int32 → Int32 → Int32 → Int32 → Option Int32
  | 0, _, _, _, _ => none
  | n + 1, x0, x1, x2, x3 => fX4_moebius_B6 N (fX4_moebius_H6 N n) x0 x1 x2 x3
def fX4_moebius (N : Nat) (p0 : Int32) : Option Int32 :=
  fX4_moebius_H6 N N p0 p0 (1 : Int32) (2 : Int32)
def fX4_lyndonCount_J54 (N : Nat) (y0 : Int64) : Option Int64 :=
  some y0
def fX4_lyndonCount_J42 (N : Nat) (x1 : Int32) (x2 : Int64) : Option Int64 :=
  if x1 ≤ 0 then
    fX4_lyndonCount_J54 N (0 : Int64)
  else
    gd (nzL ((x1).toInt64)) (
      fX4_lyndonCount_J54 N (x2 / (x1).toInt64))
def fX4_lyndonCount_J36 (N : Nat) (k5 : Int32 → Int32 → Int64 → Int32 → Option Int64) (x0 : Int32) (x1 : Int32) (x2 : Int64) (x4 : Int32) : Option Int64 :=
  k5 x0 x1 x2 (x4 + 1)
def fX4_lyndonCount_B5 (N : Nat) (k5 : Int32 → Int32 → Int64 → Int32 → Option Int64) (x0 : Int32) (x1 : Int32) (x2 : Int64) (x4 : Int32) : Option Int64 :=
  if x1 < x4 then
    fX4_lyndonCount_J42 N x1 x2
  else
    gd (nz x4) (
      if (x1 - x1 / x4 * x4) = 0 then
        bn (fX4_moebius N x4) (fun v21 =>
          gd (nz x4) (
            bn (fX4_power N x0 (x1 / x4)) (fun v30 =>
              fX4_lyndonCount_J36 N k5 x0 x1 (x2 + ((v21).toInt64 * v30)) x4)))
      else
        fX4_lyndonCount_J36 N k5 x0 x1 x2 x4)
def fX4_lyndonCount_H5 (N : Nat) : Nat → Int32 → Int32 → Int64 → Int32 → Option Int64
  | 0, _, _, _, _ => none
  | n + 1, x0, x1, x2, x4 => fX4_lyndonCount_B5 N (fX4_lyndonCount_H5 N n) x0 x1 x2 x4
def fX4_lyndonCount (N : Nat) (p0 : Int32) (p1 : Int32) : Option Int64 :=
  fX4_lyndonCount_H5 N N p0 p1 (0 : Int64) (1 : Int32)
def fX4_necklaceCount_J33 (N : Nat) (x2 : Int64) : Option Int64 :=
  some x2
def fX4_necklaceCount_J27 (N : Nat) (k5 : Int32 → Int32 → Int64 → Int32 → Option Int64) (x0 : Int32) (x1 : Int32) (x2 : Int64) (x4 : Int32) : Option Int64 :=
  k5 x0 x1 x2 (x4 + 1)
def fX4_necklaceCount_B5 (N : Nat) (k5 : Int32 → Int32 → Int64 → Int32 → Option Int64) (x0 : Int32) (x1 : Int32) (x2 : Int64) (x4 : Int32) : Option Int64 :=
  if x1 < x4 then
    fX4_necklaceCount_J33 N x2
  else
    gd (nz x4) (
      if (x1 - x1 / x4 * x4) = 0 then
        bn (fX4_lyndonCount N x0 x4) (fun v22 =>
          fX4_necklaceCount_J27 N k5 x0 x1 (x2 + v22) x4)
      else
        fX4_necklaceCount_J27 N k5 x0 x1 x2 x4)
def fX4_necklaceCount_H5 (N : Nat) : Nat → Int32 → Int32 → Int64 → Int32 → Option Int64
  | 0, _, _, _, _ => none
  | n + 1, x0, x1, x2, x4 => fX4_necklaceCount_B5 N (fX4_necklaceCount_H5 N n) x0 x1 x2 x4
def fX4_necklaceCount (N : Nat) (p0 : Int32) (p1 : Int32) : Option Int64 :=
  fX4_necklaceCount_H5 N N p0 p1 (0 : Int64) (1 : Int32)
def fX8_loadNecklace_J28 (N : Nat) (Tn : Int32) (Ta : (Nat → Int32)) (Wg : Int32) (Wz : Int32) (Ww : Int32) (Wr : Int32) : Option ((Nat × Int32 × (Nat → Int32) × Int32 × Int32 × Int32 × Int32) ⊕ (Int32 × Int32 × (Nat → Int32) × Int32 × Int32 × Int32 × Int32)) :=
  some (.inl (1, Tn, Ta, Wg, Wz, Ww, Wr))
def fX8_loadNecklace_J70 (N : Nat) (Tn : Int32) (Ta : (Nat → Int32)) (Wg : Int32) (Wz : Int32) (Ww : Int32) (Wr : Int32) (x2 : Int32) : Option ((Nat × Int32 × (Nat → Int32) × Int32 × Int32 × Int32 × Int32) ⊕ (Int32 × Int32 × (Nat → Int32) × Int32 × Int32 × Int32 × Int32)) :=
  bn (fX2_empty N Tn) (fun v74 =>
    bn (fX8_pushFromWalk N v74 Ta Wg Wz Ww Wr x2) (fun v79 =>
      bn (fX3_root N Wg Wz Ww Wr) (fun v86 =>
        some (.inr (v86, v79.1, v79.2, Wg, Wz, Ww, Wr)))))
def fX8_loadNecklace_B50 (N : Nat) (k50 : Int32 → (Nat → Int32) → Int32 → Int32 → Int32 → Int32 → Int32 → Int32 → Int32 → Option ((Nat × Int32 × (Nat → Int32) × Int32 × Int32 × Int32 × Int32) ⊕ (Int32 × Int32 × (Nat → Int32) × Int32 × Int32 × Int32 × Int32))) (Tn : Int32) (Ta : (Nat → Int32)) (Wg : Int32) (Wz : Int32) (Ww : Int32) (Wr : Int32) (x2 : Int32) (x3 : Int32) (x4 : Int32) : Option ((Nat × Int32 × (Nat → Int32) × Int32 × Int32 × Int32 × Int32) ⊕ (Int32 × Int32 × (Nat → Int32) × Int32 × Int32 × Int32 × Int32)) :=
  if x3 ≤ x4 then
    fX8_loadNecklace_J70 N Tn Ta Wg Wz Ww Wr x2
  else
    bn (fX3_toNextNecklace N Wg Wz Ww Wr) (fun v60 =>
      k50 Tn Ta Wg Wz v60.2.1 v60.2.2 x2 x3 (x4 + 1))
def fX8_loadNecklace_H50 (N : Nat) : Nat → Int32 → (Nat → Int32) → Int32 → Int32 → Int32 → Int32 → Int32 → Int32 → Int32 → Option ((Nat × Int32 × (Nat → Int32) × Int32 × Int32 × Int32 × Int32) ⊕ (Int32 × Int32 × (Nat → Int32) × Int32 × Int32 × Int32 × Int32))
  | 0, _, _, _, _, _, _, _, _, _ => none
  | n + 1, Tn, Ta, Wg, Wz, Ww, Wr, x2, x3, x4 => fX8_loadNecklace_B50 N (fX8_loadNecklace_H50 N n) Tn Ta Wg Wz Ww Wr x2 x3 x4
def fX8_loadNecklace (N : Nat) (Tn : Int32) (Ta : (Nat → Int32)) (Wg : Int32) (Wz : Int32) (Ww : Int32) (Wr : Int32) (p1 : Int32) (p2 : Int32) (p3 : Int32) : Option ((Nat × Int32 × (Nat → Int32) × Int32 × Int32 × Int32 × Int32) ⊕ (Int32 × Int32 × (Nat → Int32) × Int32 × Int32 × Int32 × Int32)) :=
  bx (fX8_checkArgument N p1 (1 : Int32) (4 : Int32)) (fun z3 => some (.inl (z3, Tn, Ta, Wg, Wz, Ww, Wr))) (fun v3 =>
    bx (fX8_checkArgument N p2 (1 : Int32) (8 : Int32)) (fun z10 => some (.inl (z10, Tn, Ta, Wg, Wz, Ww, Wr))) (fun v10 =>
      if p3 < 0 then
        fX8_loadNecklace_J28 N Tn Ta Wg Wz Ww Wr
      else
        bn (fX4_necklaceCount N p1 p2) (fun v21 =>
          if (lg_cmp ((p3).toInt64) v21) < 0 then
            bn (fX3_begin N Wg Wz Ww Wr p1 p2) (fun v44 =>
              fX8_loadNecklace_H50 N N Tn Ta v44.1 v44.2.1 v44.2.2.1 v44.2.2.2 p2 p3 (0 : Int32))
          else
            fX8_loadNecklace_J28 N Tn Ta Wg Wz Ww Wr)))
def fX8_length (N : Nat) (Tn : Int32) : Option Int32 :=
  bn (fX2_count N Tn) (fun v4 =>
    some v4)
def fX8_letterAt (N : Nat) (Tn : Int32) (Ta : (Nat → Int32)) (p1 : Int32) : Option (Nat ⊕ Int32) :=
  bn (fX2_count N Tn) (fun v5 =>
    bx (fX8_checkIndex N p1 v5) (fun z8 => some (.inl z8)) (fun v8 =>
      bn (fX2_letter N Tn Ta p1) (fun v16 =>
        some (.inr v16))))
def fX2_countSame_J51 (N : Nat) (Tn : Int32) (Ta : (Nat → Int32)) (x4 : Int32) : Option Int32 :=
  some x4
def fX2_countSame_B14 (N : Nat) (Tn : Int32) (Ta : (Nat → Int32)) (k14 : Int32 → Int32 → Int32 → Int32 → Option Int32) (x1 : Int32) (x2 : Int32) (x3 : Int32) (x4 : Int32) : Option Int32 :=
  if x3 ≤ x4 then
    fX2_countSame_J51 N Tn Ta x4
  else
    bn (fX8_at N 64 Ta (x1 + x4)) (fun v28 =>
      bn (fX8_at N 64 Ta (x2 + x4)) (fun v39 =>
        if v28 = v39 then
          k14 x1 x2 x3 (x4 + 1)
        else
          fX2_countSame_J51 N Tn Ta x4))
def fX2_countSame_H14 (N : Nat) (Tn : Int32) (Ta : (Nat → Int32)) : Nat → Int32 → Int32 → Int32 → Int32 → Option Int32
  | 0, _, _, _, _ => none
  | n + 1, x1, x2, x3, x4 => fX2_countSame_B14 N Tn Ta (fX2_countSame_H14 N Tn Ta n) x1 x2 x3 x4
def fX2_countSame (N : Nat) (Tn : Int32) (Ta : (Nat → Int32)) (p1 : Int32) (p2 : Int32) : Option Int32 :=
  fX2_countSame_H14 N Tn Ta N p1 p2 (Tn - (if p1 < p2 then p2 else p1)) (0 : Int32)
def fX8_compare (N : Nat) (Tn : Int32) (Ta : (Nat → Int32)) (p1 : Int32) (p2 : Int32) (p3 : Int32) (p4 : Int32) : Option (Nat ⊕ Int32) :=
  bx (fX8_checkPart N Tn p1 p2) (fun z3 => some (.inl z3)) (fun v3 =>
    bx (fX8_checkPart N Tn p3 p4) (fun z10 => some (.inl z10)) (fun v10 =>
      bn (fX2_countSame N Tn Ta p1 p3) (fun v31 =>
        if (if (p4 - p3) < (p2 - p1) then (p4 - p3) else (p2 - p1)) ≤ v31 then
          bn (fJ6_compare_7cf53 N (p2 - p1) (p4 - p3)) (fun v76 =>
            some (.inr v76))
        else
          bn (fX2_letter N Tn Ta (p1 + v31)) (fun v51 =>
            bn (fX2_letter N Tn Ta (p3 + v31)) (fun v62 =>
              bn (fJ6_compare_7cf53 N v51 v62) (fun v65 =>
                some (.inr v65)))))))
def fX1_firstLength_J68 (N : Nat) (Tn : Int32) (Ta : (Nat → Int32)) (x4 : Int32) : Option Int32 :=
  some x4
def fX1_firstLength_J46 (N : Nat) (Tn : Int32) (Ta : (Nat → Int32)) (x4 : Int32) : Option Int32 :=
  some x4
def fX1_firstLength_J62 (N : Nat) (Tn : Int32) (Ta : (Nat → Int32)) (k8 : Int32 → Int32 → Int32 → Int32 → Int32 → Option Int32) (x1 : Int32) (x2 : Int32) (x3 : Int32) (x4 : Int32) (x5 : Int32) : Option Int32 :=
  k8 x1 x2 x3 x4 (x5 + 1)
def fX1_firstLength_J41 (N : Nat) (Tn : Int32) (Ta : (Nat → Int32)) (k8 : Int32 → Int32 → Int32 → Int32 → Int32 → Option Int32) (x1 : Int32) (x2 : Int32) (x3 : Int32) (x4 : Int32) (x5 : Int32) (x6 : Int32) : Option Int32 :=
  if 0 ≤ x6 then
    if x6 ≤ 0 then
      fX1_firstLength_J62 N Tn Ta k8 x1 x2 x3 x4 x5
    else
      fX1_firstLength_J62 N Tn Ta k8 x1 x2 x3 ((x5 + (1 : Int32)) - x1) x5
  else
    fX1_firstLength_J46 N Tn Ta x4
def fX1_firstLength_B8 (N : Nat) (Tn : Int32) (Ta : (Nat → Int32)) (k8 : Int32 → Int32 → Int32 → Int32 → Int32 → Option Int32) (x1 : Int32) (x2 : Int32) (x3 : Int32) (x4 : Int32) (x5 : Int32) : Option Int32 :=
  if x2 ≤ x5 then
    fX1_firstLength_J68 N Tn Ta x4
  else
    bn (fX2_letter N Tn Ta x5) (fun v17 =>
      bn (fX2_letter N Tn Ta (x5 - x4)) (fun v26 =>
        if x3 = 0 then
          fX1_firstLength_J41 N Tn Ta k8 x1 x2 x3 x4 x5 (v17 - v26)
        else
          fX1_firstLength_J41 N Tn Ta k8 x1 x2 x3 x4 x5 (-(v17 - v26))))
def fX1_firstLength_H8 (N : Nat) (Tn : Int32) (Ta : (Nat → Int32)) : Nat → Int32 → Int32 → Int32 → Int32 → Int32 → Option Int32
  | 0, _, _, _, _, _ => none
  | n + 1, x1, x2, x3, x4, x5 => fX1_firstLength_B8 N Tn Ta (fX1_firstLength_H8 N Tn Ta n) x1 x2 x3 x4 x5
def fX1_firstLength (N : Nat) (Tn : Int32) (Ta : (Nat → Int32)) (p1 : Int32) (p2 : Int32) (p3 : Int32) : Option Int32 :=
  fX1_firstLength_H8 N Tn Ta N p1 p2 p3 (1 : Int32) (p1 + (1 : Int32))
def fX1_isOneFactor_J18 (N : Nat) (Tn : Int32) (Ta : (Nat → Int32)) (y0 : Int32) : Option Int32 :=
  gd (isB y0) (some y0)
def fX1_isOneFactor (N : Nat) (Tn : Int32) (Ta : (Nat → Int32)) (p1 : Int32) (p2 : Int32) : Option Int32 :=
  bn (fX1_firstLength N Tn Ta p1 p2 (0 : Int32)) (fun v4 =>
    if v4 = (p2 - p1) then
      fX1_isOneFactor_J18 N Tn Ta (1 : Int32)
    else
      fX1_isOneFactor_J18 N Tn Ta (0 : Int32))
def fX8_isLyndon (N : Nat) (Tn : Int32) (Ta : (Nat → Int32)) (p1 : Int32) (p2 : Int32) : Option (Nat ⊕ Int32) :=
  bx (fX8_checkPart N Tn p1 p2) (fun z3 => some (.inl z3)) (fun v3 =>
    bn (fX1_isOneFactor N Tn Ta p1 p2) (fun v12 =>
      gd (isB v12) (some (.inr v12))))
def fX1_find_J62 (N : Nat) (Tn : Int32) (Ta : (Nat → Int32)) (Fn : Int32) (Fa : (Nat → Int32)) : Option (Int32 × (Nat → Int32)) :=
  bn (fX2_count N Tn) (fun v71 =>
    bn (fX8_put N 65 Fa Fn v71) (fun v74 =>
      some (Fn, v74)))
def fX1_find_B7 (N : Nat) (Tn : Int32) (Ta : (Nat → Int32)) (k7 : Int32 → (Nat → Int32) → Int32 → Option (Int32 × (Nat → Int32))) (Fn : Int32) (Fa : (Nat → Int32)) (x2 : Int32) : Option (Int32 × (Nat → Int32)) :=
  bn (fX2_count N Tn) (fun v9 =>
    if v9 ≤ x2 then
      fX1_find_J62 N Tn Ta Fn Fa
    else
      if (64 : Int32) ≤ Fn then
        fX1_find_J62 N Tn Ta Fn Fa
      else
        bn (fX8_put N 65 Fa Fn x2) (fun v33 =>
          bn (fX2_count N Tn) (fun v50 =>
            bn (fX1_firstLength N Tn Ta x2 v50 (0 : Int32)) (fun v54 =>
              k7 (Fn + (1 : Int32)) v33 (x2 + v54)))))
def fX1_find_H7 (N : Nat) (Tn : Int32) (Ta : (Nat → Int32)) : Nat → Int32 → (Nat → Int32) → Int32 → Option (Int32 × (Nat → Int32))
  | 0, _, _, _ => none
  | n + 1, Fn, Fa, x2 => fX1_find_B7 N Tn Ta (fX1_find_H7 N Tn Ta n) Fn Fa x2
def fX1_find (N : Nat) (Tn : Int32) (Ta : (Nat → Int32)) (Fn : Int32) (Fa : (Nat → Int32)) : Option (Int32 × (Nat → Int32)) :=
  fX1_find_H7 N Tn Ta N (0 : Int32) Fa (0 : Int32)
def fX1_count (N : Nat) (Fn : Int32) : Option Int32 :=
  some Fn
def fX8_factors (N : Nat) (Tn : Int32) (Ta : (Nat → Int32)) (Fn : Int32) (Fa : (Nat → Int32)) : Option (Int32 × Int32 × (Nat → Int32)) :=
  bn (fX1_find N Tn Ta Fn Fa) (fun v8 =>
    bn (fX1_count N v8.1) (fun v15 =>
      some (v15, v8.1, v8.2)))
def fX8_findFactor (N : Nat) (Tn : Int32) (Ta : (Nat → Int32)) (Fn : Int32) (Fa : (Nat → Int32)) (p1 : Int32) : Option ((Nat × Int32 × (Nat → Int32)) ⊕ (Int32 × (Nat → Int32))) :=
  bn (fX1_find N Tn Ta Fn Fa) (fun v8 =>
    bn (fX1_count N v8.1) (fun v16 =>
      bx (fX8_checkIndex N p1 v16) (fun z19 => some (.inl (z19, v8.1, v8.2))) (fun v19 =>
        some (.inr (v8.1, v8.2)))))
def fX1_start (N : Nat) (Fn : Int32) (Fa : (Nat → Int32)) (p1 : Int32) : Option Int32 :=
  bn (fX8_at N 65 Fa p1) (fun v5 =>
    some v5)
def fX8_factorStart (N : Nat) (Tn : Int32) (Ta : (Nat → Int32)) (Fn : Int32) (Fa : (Nat → Int32)) (p1 : Int32) : Option ((Nat × Int32 × (Nat → Int32)) ⊕ (Int32 × Int32 × (Nat → Int32))) :=
  bx (fX8_findFactor N Tn Ta Fn Fa p1) (fun z2 => some (.inl (z2.1, z2.2.1, z2.2.2))) (fun v2 =>
    bn (fX1_start N v2.1 v2.2 p1) (fun v10 =>
      some (.inr (v10, v2.1, v2.2))))
def fX8_factorLength (N : Nat) (Tn : Int32) (Ta : (Nat → Int32)) (Fn : Int32) (Fa : (Nat → Int32)) (p1 : Int32) : Option ((Nat × Int32 × (Nat → Int32)) ⊕ (Int32 × Int32 × (Nat → Int32))) :=
  bx (fX8_findFactor N Tn Ta Fn Fa p1) (fun z2 => some (.inl (z2.1, z2.2.1, z2.2.2))) (fun v2 =>
    bn (fX1_start N v2.1 v2.2 (p1 + (1 : Int32))) (fun v12 =>
      bn (fX1_start N v2.1 v2.2 p1) (fun v20 =>
        some (.inr ((v12 - v20), v2.1, v2.2)))))
def fX1_numberOver_J32 (N : Nat) (Fn : Int32) (Fa : (Nat → Int32)) (x2 : Int32) : Option Int32 :=
  some x2
def fX1_numberOver_B2 (N : Nat) (Fn : Int32) (Fa : (Nat → Int32)) (k2 : Int32 → Int32 → Option Int32) (x1 : Int32) (x2 : Int32) : Option Int32 :=
  if (Fn - (1 : Int32)) ≤ x2 then
    fX1_numberOver_J32 N Fn Fa x2
  else
    bn (fX8_at N 65 Fa (x2 + (1 : Int32))) (fun v19 =>
      if x1 < v19 then
        fX1_numberOver_J32 N Fn Fa x2
      else
        k2 x1 (x2 + 1))
def fX1_numberOver_H2 (N : Nat) (Fn : Int32) (Fa : (Nat → Int32)) : Nat → Int32 → Int32 → Option Int32
  | 0, _, _ => none
  | n + 1, x1, x2 => fX1_numberOver_B2 N Fn Fa (fX1_numberOver_H2 N Fn Fa n) x1 x2
def fX1_numberOver (N : Nat) (Fn : Int32) (Fa : (Nat → Int32)) (p1 : Int32) : Option Int32 :=
  fX1_numberOver_H2 N Fn Fa N p1 (0 : Int32)
def fX8_factorOver (N : Nat) (Tn : Int32) (Ta : (Nat → Int32)) (Fn : Int32) (Fa : (Nat → Int32)) (p1 : Int32) : Option ((Nat × Int32 × (Nat → Int32)) ⊕ (Int32 × Int32 × (Nat → Int32))) :=
  bn (fX2_count N Tn) (fun v5 =>
    bx (fX8_checkIndex N p1 v5) (fun z8 => some (.inl (z8, Fn, Fa))) (fun v8 =>
      bn (fX1_find N Tn Ta Fn Fa) (fun v19 =>
        bn (fX1_numberOver N v19.1 v19.2 p1) (fun v27 =>
          some (.inr (v27, v19.1, v19.2))))))
def fX8_longestLyndon (N : Nat) (Tn : Int32) (Ta : (Nat → Int32)) (p1 : Int32) (p2 : Int32) : Option (Nat ⊕ Int32) :=
  bn (fX2_count N Tn) (fun v5 =>
    bx (fX8_checkIndex N p1 v5) (fun z8 => some (.inl z8)) (fun v8 =>
      bn (fX2_count N Tn) (fun v20 =>
        bn (fX1_firstLength N Tn Ta p1 v20 p2) (fun v24 =>
          some (.inr v24)))))
def fX8_standardFactor_J25 (N : Nat) (Tn : Int32) (Ta : (Nat → Int32)) : Option (Nat ⊕ Int32) :=
  some (.inl 2)
def fX8_standardFactor_J64 (N : Nat) (Tn : Int32) (Ta : (Nat → Int32)) (x3 : Int32) : Option (Nat ⊕ Int32) :=
  some (.inr x3)
def fX8_standardFactor_B39 (N : Nat) (Tn : Int32) (Ta : (Nat → Int32)) (k39 : Int32 → Int32 → Option (Nat ⊕ Int32)) (x2 : Int32) (x3 : Int32) : Option (Nat ⊕ Int32) :=
  if (x2 - (1 : Int32)) ≤ x3 then
    fX8_standardFactor_J64 N Tn Ta x3
  else
    bn (fX1_isOneFactor N Tn Ta x3 x2) (fun v52 =>
      if v52 = 0 then
        k39 x2 (x3 + 1)
      else
        fX8_standardFactor_J64 N Tn Ta x3)
def fX8_standardFactor_H39 (N : Nat) (Tn : Int32) (Ta : (Nat → Int32)) : Nat → Int32 → Int32 → Option (Nat ⊕ Int32)
  | 0, _, _ => none
  | n + 1, x2, x3 => fX8_standardFactor_B39 N Tn Ta (fX8_standardFactor_H39 N Tn Ta n) x2 x3
def fX8_standardFactor (N : Nat) (Tn : Int32) (Ta : (Nat → Int32)) (p1 : Int32) (p2 : Int32) : Option (Nat ⊕ Int32) :=
  bx (fX8_checkPart N Tn p1 p2) (fun z3 => some (.inl z3)) (fun v3 =>
    if (p2 - p1) = (1 : Int32) then
      fX8_standardFactor_J25 N Tn Ta
    else
      bn (fX1_isOneFactor N Tn Ta p1 p2) (fun v19 =>
        if v19 = 0 then
          fX8_standardFactor_J25 N Tn Ta
        else
          fX8_standardFactor_H39 N Tn Ta N p2 (p1 + (1 : Int32))))
def fX5_letter_J24 (N : Nat) (Tn : Int32) (Ta : (Nat → Int32)) (y0 : Int32) : Option Int32 :=
  some y0
def fX5_letter (N : Nat) (Tn : Int32) (Ta : (Nat → Int32)) (p1 : Int32) (p2 : Int32) (p3 : Int32) : Option Int32 :=
  if (p2 - p1) ≤ 0 then
    fX5_letter_J24 N Tn Ta (0 : Int32)
  else
    gd (nz (p2 - p1)) (
      bn (fX2_letter N Tn Ta (p1 + (p3 - p3 / (p2 - p1) * (p2 - p1)))) (fun v17 =>
        fX5_letter_J24 N Tn Ta v17))
def fX5_difference_J49 (N : Nat) (Tn : Int32) (Ta : (Nat → Int32)) (x5 : Int32) : Option Int32 :=
  some x5
def fX5_difference_B6 (N : Nat) (Tn : Int32) (Ta : (Nat → Int32)) (k6 : Int32 → Int32 → Int32 → Int32 → Int32 → Int32 → Option Int32) (x1 : Int32) (x2 : Int32) (x3 : Int32) (x4 : Int32) (x5 : Int32) (x6 : Int32) : Option Int32 :=
  if (x2 - x1) ≤ x6 then
    fX5_difference_J49 N Tn Ta x5
  else
    if x5 = 0 then
      bn (fX5_letter N Tn Ta x1 x2 (x3 + x6)) (fun v26 =>
        bn (fX5_letter N Tn Ta x1 x2 (x4 + x6)) (fun v37 =>
          k6 x1 x2 x3 x4 (v26 - v37) (x6 + 1)))
    else
      fX5_difference_J49 N Tn Ta x5
def fX5_difference_H6 (N : Nat) (Tn : Int32) (Ta : (Nat → Int32)) : Nat → Int32 → Int32 → Int32 → Int32 → Int32 → Int32 → Option Int32
  | 0, _, _, _, _, _, _ => none
  | n + 1, x1, x2, x3, x4, x5, x6 => fX5_difference_B6 N Tn Ta (fX5_difference_H6 N Tn Ta n) x1 x2 x3 x4 x5 x6
def fX5_difference (N : Nat) (Tn : Int32) (Ta : (Nat → Int32)) (p1 : Int32) (p2 : Int32) (p3 : Int32) (p4 : Int32) : Option Int32 :=
  fX5_difference_H6 N Tn Ta N p1 p2 p3 p4 (0 : Int32) (0 : Int32)
def fX5_least_J34 (N : Nat) (Tn : Int32) (Ta : (Nat → Int32)) (x3 : Int32) : Option Int32 :=
  some x3
def fX5_least_J28 (N : Nat) (Tn : Int32) (Ta : (Nat → Int32)) (k5 : Int32 → Int32 → Int32 → Int32 → Option Int32) (x1 : Int32) (x2 : Int32) (x3 : Int32) (x4 : Int32) : Option Int32 :=
  k5 x1 x2 x3 (x4 + 1)
def fX5_least_B5 (N : Nat) (Tn : Int32) (Ta : (Nat → Int32)) (k5 : Int32 → Int32 → Int32 → Int32 → Option Int32) (x1 : Int32) (x2 : Int32) (x3 : Int32) (x4 : Int32) : Option Int32 :=
  if (x2 - x1) ≤ x4 then
    fX5_least_J34 N Tn Ta x3
  else
    bn (fX5_difference N Tn Ta x1 x2 x4 x3) (fun v19 =>
      if 0 ≤ v19 then
        fX5_least_J28 N Tn Ta k5 x1 x2 x3 x4
      else
        fX5_least_J28 N Tn Ta k5 x1 x2 x4 x4)
def fX5_least_H5 (N : Nat) (Tn : Int32) (Ta : (Nat → Int32)) : Nat → Int32 → Int32 → Int32 → Int32 → Option Int32
  | 0, _, _, _, _ => none
  | n + 1, x1, x2, x3, x4 => fX5_least_B5 N Tn Ta (fX5_least_H5 N Tn Ta n) x1 x2 x3 x4
def fX5_least (N : Nat) (Tn : Int32) (Ta : (Nat → Int32)) (p1 : Int32) (p2 : Int32) : Option Int32 :=
  fX5_least_H5 N Tn Ta N p1 p2 (0 : Int32) (1 : Int32)
def fX8_leastRotation (N : Nat) (Tn : Int32) (Ta : (Nat → Int32)) (p1 : Int32) (p2 : Int32) : Option (Nat ⊕ Int32) :=
  bx (fX8_checkPart N Tn p1 p2) (fun z3 => some (.inl z3)) (fun v3 =>
    bn (fX5_least N Tn Ta p1 p2) (fun v12 =>
      some (.inr v12)))
def fX5_greatest_J34 (N : Nat) (Tn : Int32) (Ta : (Nat → Int32)) (x3 : Int32) : Option Int32 :=
  some x3
def fX5_greatest_J28 (N : Nat) (Tn : Int32) (Ta : (Nat → Int32)) (k5 : Int32 → Int32 → Int32 → Int32 → Option Int32) (x1 : Int32) (x2 : Int32) (x3 : Int32) (x4 : Int32) : Option Int32 :=
  k5 x1 x2 x3 (x4 + 1)
def fX5_greatest_B5 (N : Nat) (Tn : Int32) (Ta : (Nat → Int32)) (k5 : Int32 → Int32 → Int32 → Int32 → Option Int32) (x1 : Int32) (x2 : Int32) (x3 : Int32) (x4 : Int32) : Option Int32 :=
  if (x2 - x1) ≤ x4 then
    fX5_greatest_J34 N Tn Ta x3
  else
    bn (fX5_difference N Tn Ta x1 x2 x4 x3) (fun v19 =>
      if v19 ≤ 0 then
        fX5_greatest_J28 N Tn Ta k5 x1 x2 x3 x4
      else
        fX5_greatest_J28 N Tn Ta k5 x1 x2 x4 x4)
def fX5_greatest_H5 (N : Nat) (Tn : Int32) (Ta : (Nat → Int32)) : Nat → Int32 → Int32 → Int32 → Int32 → Option Int32
  | 0, _, _, _, _ => none
  | n + 1, x1, x2, x3, x4 => fX5_greatest_B5 N Tn Ta (fX5_greatest_H5 N Tn Ta n) x1 x2 x3 x4
def fX5_greatest (N : Nat) (Tn : Int32) (Ta : (Nat → Int32)) (p1 : Int32) (p2 : Int32) : Option Int32 :=
  fX5_greatest_H5 N Tn Ta N p1 p2 (0 : Int32) (1 : Int32)
def fX8_greatestRotation (N : Nat) (Tn : Int32) (Ta : (Nat → Int32)) (p1 : Int32) (p2 : Int32) : Option (Nat ⊕ Int32) :=
  bx (fX8_checkPart N Tn p1 p2) (fun z3 => some (.inl z3)) (fun v3 =>
    bn (fX5_greatest N Tn Ta p1 p2) (fun v12 =>
      some (.inr v12)))
def fX0_widened_J84 (N : Nat) (Tn : Int32) (Ta : (Nat → Int32)) (Ba : (Nat → Int32)) (y0 : Int32) : Option Int32 :=
  some y0
def fX0_widened_J63 (N : Nat) (Tn : Int32) (Ta : (Nat → Int32)) (Ba : (Nat → Int32)) (x2 : Int32) (x4 : Int32) (x5 : Int32) : Option Int32 :=
  bn (fX2_letter N Tn Ta (x2 + x5)) (fun v68 =>
    if v68 = x4 then
      fX0_widened_J84 N Tn Ta Ba (x5 + (1 : Int32))
    else
      fX0_widened_J84 N Tn Ta Ba (0 : Int32))
def fX0_widened_B22 (N : Nat) (Tn : Int32) (Ta : (Nat → Int32)) (Ba : (Nat → Int32)) (k22 : Int32 → Int32 → Int32 → Int32 → Int32 → Option Int32) (x2 : Int32) (x3 : Int32) (x4 : Int32) (x5 : Int32) (x6 : Int32) : Option Int32 :=
  if x3 ≤ x6 then
    fX0_widened_J63 N Tn Ta Ba x2 x4 x5
  else
    if x5 ≤ 0 then
      fX0_widened_J63 N Tn Ta Ba x2 x4 x5
    else
      bn (fX2_letter N Tn Ta (x2 + x5)) (fun v38 =>
        if v38 = x4 then
          fX0_widened_J63 N Tn Ta Ba x2 x4 x5
        else
          bn (fX8_at N 65 Ba x5) (fun v52 =>
            k22 x2 x3 x4 v52 (x6 + 1)))
def fX0_widened_H22 (N : Nat) (Tn : Int32) (Ta : (Nat → Int32)) (Ba : (Nat → Int32)) : Nat → Int32 → Int32 → Int32 → Int32 → Int32 → Option Int32
  | 0, _, _, _, _, _ => none
  | n + 1, x2, x3, x4, x5, x6 => fX0_widened_B22 N Tn Ta Ba (fX0_widened_H22 N Tn Ta Ba n) x2 x3 x4 x5 x6
def fX0_widened (N : Nat) (Tn : Int32) (Ta : (Nat → Int32)) (Ba : (Nat → Int32)) (p2 : Int32) (p3 : Int32) : Option Int32 :=
  bn (fX2_letter N Tn Ta (p2 + p3)) (fun v4 =>
    bn (fX8_at N 65 Ba p3) (fun v14 =>
      fX0_widened_H22 N Tn Ta Ba N p2 p3 v4 v14 (0 : Int32)))
def fX0_longest_J45 (N : Nat) (Tn : Int32) (Ta : (Nat → Int32)) (Ba : (Nat → Int32)) (x2 : Int32) (x3 : Int32) : Option (Int32 × (Nat → Int32)) :=
  bn (fX8_at N 65 Ba (x3 - x2)) (fun v52 =>
    some (v52, Ba))
def fX0_longest_B12 (N : Nat) (Tn : Int32) (Ta : (Nat → Int32)) (k12 : (Nat → Int32) → Int32 → Int32 → Int32 → Option (Int32 × (Nat → Int32))) (Ba : (Nat → Int32)) (x2 : Int32) (x3 : Int32) (x4 : Int32) : Option (Int32 × (Nat → Int32)) :=
  if (x3 - x2) ≤ x4 then
    fX0_longest_J45 N Tn Ta Ba x2 x3
  else
    bn (fX0_widened N Tn Ta Ba x2 x4) (fun v33 =>
      bn (fX8_put N 65 Ba (x4 + (1 : Int32)) v33) (fun v36 =>
        k12 v36 x2 x3 (x4 + 1)))
def fX0_longest_H12 (N : Nat) (Tn : Int32) (Ta : (Nat → Int32)) : Nat → (Nat → Int32) → Int32 → Int32 → Int32 → Option (Int32 × (Nat → Int32))
  | 0, _, _, _, _ => none
  | n + 1, Ba, x2, x3, x4 => fX0_longest_B12 N Tn Ta (fX0_longest_H12 N Tn Ta n) Ba x2 x3 x4
def fX0_longest (N : Nat) (Tn : Int32) (Ta : (Nat → Int32)) (Ba : (Nat → Int32)) (p2 : Int32) (p3 : Int32) : Option (Int32 × (Nat → Int32)) :=
  bn (fX8_put N 65 Ba (1 : Int32) (0 : Int32)) (fun v6 =>
    fX0_longest_H12 N Tn Ta N v6 p2 p3 (1 : Int32))
def fX0_leastPeriod (N : Nat) (Tn : Int32) (Ta : (Nat → Int32)) (Ba : (Nat → Int32)) (p2 : Int32) (p3 : Int32) : Option (Int32 × (Nat → Int32)) :=
  bn (fX0_longest N Tn Ta Ba p2 p3) (fun v7 =>
    some (((p3 - p2) - v7.1), v7.2))
def fX0_rootSize_J31 (N : Nat) (Tn : Int32) (Ta : (Nat → Int32)) (Ba : (Nat → Int32)) (y0 : Int32) : Option (Int32 × (Nat → Int32)) :=
  some (y0, Ba)
def fX0_rootSize_J28 (N : Nat) (Tn : Int32) (Ta : (Nat → Int32)) (Ba : (Nat → Int32)) (x2 : Int32) (x3 : Int32) : Option (Int32 × (Nat → Int32)) :=
  fX0_rootSize_J31 N Tn Ta Ba (x3 - x2)
def fX0_rootSize (N : Nat) (Tn : Int32) (Ta : (Nat → Int32)) (Ba : (Nat → Int32)) (p2 : Int32) (p3 : Int32) : Option (Int32 × (Nat → Int32)) :=
  bn (fX0_leastPeriod N Tn Ta Ba p2 p3) (fun v4 =>
    if v4.1 ≤ 0 then
      fX0_rootSize_J28 N Tn Ta v4.2 p2 p3
    else
      gd (nz v4.1) (
        if ((p3 - p2) - (p3 - p2) / v4.1 * v4.1) = 0 then
          fX0_rootSize_J31 N Tn Ta v4.2 v4.1
        else
          fX0_rootSize_J28 N Tn Ta v4.2 p2 p3))
def fX8_rotations (N : Nat) (Tn : Int32) (Ta : (Nat → Int32)) (Ba : (Nat → Int32)) (p1 : Int32) (p2 : Int32) : Option ((Nat × (Nat → Int32)) ⊕ (Int32 × (Nat → Int32))) :=
  bx (fX8_checkPart N Tn p1 p2) (fun z3 => some (.inl (z3, Ba))) (fun v3 =>
    bn (fX0_rootSize N Tn Ta Ba p1 p2) (fun v16 =>
      some (.inr (v16.1, v16.2))))
def fX8_isNecklace_J23 (N : Nat) (Tn : Int32) (Ta : (Nat → Int32)) (y0 : Int32) : Option (Nat ⊕ Int32) :=
  gd (isB y0) (some (.inr y0))
def fX8_isNecklace (N : Nat) (Tn : Int32) (Ta : (Nat → Int32)) (p1 : Int32) (p2 : Int32) : Option (Nat ⊕ Int32) :=
  bx (fX8_checkPart N Tn p1 p2) (fun z3 => some (.inl z3)) (fun v3 =>
    bn (fX5_least N Tn Ta p1 p2) (fun v12 =>
      if v12 = 0 then
        fX8_isNecklace_J23 N Tn Ta (1 : Int32)
      else
        fX8_isNecklace_J23 N Tn Ta (0 : Int32)))
def fX8_period (N : Nat) (Tn : Int32) (Ta : (Nat → Int32)) (Ba : (Nat → Int32)) (p1 : Int32) (p2 : Int32) : Option ((Nat × (Nat → Int32)) ⊕ (Int32 × (Nat → Int32))) :=
  bx (fX8_checkPart N Tn p1 p2) (fun z3 => some (.inl (z3, Ba))) (fun v3 =>
    bn (fX0_leastPeriod N Tn Ta Ba p1 p2) (fun v16 =>
      some (.inr (v16.1, v16.2))))
def fX2_keepsPeriod_J42 (N : Nat) (Tn : Int32) (Ta : (Nat → Int32)) : Option Int32 :=
  gd (isB (1 : Int32)) (some (1 : Int32))
def fX2_keepsPeriod_J34 (N : Nat) (Tn : Int32) (Ta : (Nat → Int32)) : Option Int32 :=
  gd (isB (0 : Int32)) (some (0 : Int32))
def fX2_keepsPeriod_B5 (N : Nat) (Tn : Int32) (Ta : (Nat → Int32)) (k5 : Int32 → Int32 → Int32 → Option Int32) (x2 : Int32) (x3 : Int32) (x4 : Int32) : Option Int32 :=
  if x2 ≤ x4 then
    fX2_keepsPeriod_J42 N Tn Ta
  else
    bn (fX8_at N 64 Ta x4) (fun v17 =>
      bn (fX8_at N 64 Ta (x4 - x3)) (fun v28 =>
        if v17 = v28 then
          k5 x2 x3 (x4 + 1)
        else
          fX2_keepsPeriod_J34 N Tn Ta))
def fX2_keepsPeriod_H5 (N : Nat) (Tn : Int32) (Ta : (Nat → Int32)) : Nat → Int32 → Int32 → Int32 → Option Int32
  | 0, _, _, _ => none
  | n + 1, x2, x3, x4 => fX2_keepsPeriod_B5 N Tn Ta (fX2_keepsPeriod_H5 N Tn Ta n) x2 x3 x4
def fX2_keepsPeriod (N : Nat) (Tn : Int32) (Ta : (Nat → Int32)) (p1 : Int32) (p2 : Int32) (p3 : Int32) : Option Int32 :=
  fX2_keepsPeriod_H5 N Tn Ta N p2 p3 (p1 + p3)
def fX2_firstPeriod_J25 (N : Nat) (Tn : Int32) (Ta : (Nat → Int32)) (x3 : Int32) : Option Int32 :=
  some x3
def fX2_firstPeriod_B2 (N : Nat) (Tn : Int32) (Ta : (Nat → Int32)) (k2 : Int32 → Int32 → Int32 → Option Int32) (x1 : Int32) (x2 : Int32) (x3 : Int32) : Option Int32 :=
  if (x2 - x1) ≤ x3 then
    fX2_firstPeriod_J25 N Tn Ta x3
  else
    bn (fX2_keepsPeriod N Tn Ta x1 x2 x3) (fun v13 =>
      if v13 = 0 then
        k2 x1 x2 (x3 + 1)
      else
        fX2_firstPeriod_J25 N Tn Ta x3)
def fX2_firstPeriod_H2 (N : Nat) (Tn : Int32) (Ta : (Nat → Int32)) : Nat → Int32 → Int32 → Int32 → Option Int32
  | 0, _, _, _ => none
  | n + 1, x1, x2, x3 => fX2_firstPeriod_B2 N Tn Ta (fX2_firstPeriod_H2 N Tn Ta n) x1 x2 x3
def fX2_firstPeriod (N : Nat) (Tn : Int32) (Ta : (Nat → Int32)) (p1 : Int32) (p2 : Int32) : Option Int32 :=
  fX2_firstPeriod_H2 N Tn Ta N p1 p2 (1 : Int32)
def fX8_periodByTrying (N : Nat) (Tn : Int32) (Ta : (Nat → Int32)) (p1 : Int32) (p2 : Int32) : Option (Nat ⊕ Int32) :=
  bx (fX8_checkPart N Tn p1 p2) (fun z3 => some (.inl z3)) (fun v3 =>
    bn (fX2_firstPeriod N Tn Ta p1 p2) (fun v12 =>
      some (.inr v12)))
def fX8_isPeriod (N : Nat) (Tn : Int32) (Ta : (Nat → Int32)) (p1 : Int32) (p2 : Int32) (p3 : Int32) : Option (Nat ⊕ Int32) :=
  bx (fX8_checkPart N Tn p1 p2) (fun z3 => some (.inl z3)) (fun v3 =>
    bx (fX8_checkArgument N p3 (1 : Int32) (p2 - p1)) (fun z11 => some (.inl z11)) (fun v11 =>
      bn (fX2_keepsPeriod N Tn Ta p1 p2 p3) (fun v21 =>
        gd (isB v21) (some (.inr v21)))))
def fX0_countAll_J41 (N : Nat) (Tn : Int32) (Ta : (Nat → Int32)) (Ba : (Nat → Int32)) (x5 : Int32) : Option (Int32 × (Nat → Int32)) :=
  some (x5, Ba)
def fX0_countAll_B12 (N : Nat) (Tn : Int32) (Ta : (Nat → Int32)) (k12 : (Nat → Int32) → Int32 → Int32 → Option (Int32 × (Nat → Int32))) (Ba : (Nat → Int32)) (x4 : Int32) (x5 : Int32) : Option (Int32 × (Nat → Int32)) :=
  if x4 ≤ 0 then
    fX0_countAll_J41 N Tn Ta Ba x5
  else
    if (64 : Int32) ≤ x5 then
      fX0_countAll_J41 N Tn Ta Ba x5
    else
      bn (fX8_at N 65 Ba x4) (fun v30 =>
        k12 Ba v30 (x5 + 1))
def fX0_countAll_H12 (N : Nat) (Tn : Int32) (Ta : (Nat → Int32)) : Nat → (Nat → Int32) → Int32 → Int32 → Option (Int32 × (Nat → Int32))
  | 0, _, _, _ => none
  | n + 1, Ba, x4, x5 => fX0_countAll_B12 N Tn Ta (fX0_countAll_H12 N Tn Ta n) Ba x4 x5
def fX0_countAll (N : Nat) (Tn : Int32) (Ta : (Nat → Int32)) (Ba : (Nat → Int32)) (p2 : Int32) (p3 : Int32) : Option (Int32 × (Nat → Int32)) :=
  bn (fX0_longest N Tn Ta Ba p2 p3) (fun v4 =>
    fX0_countAll_H12 N Tn Ta N v4.2 v4.1 (1 : Int32))
def fX8_periods (N : Nat) (Tn : Int32) (Ta : (Nat → Int32)) (Ba : (Nat → Int32)) (p1 : Int32) (p2 : Int32) : Option ((Nat × (Nat → Int32)) ⊕ (Int32 × (Nat → Int32))) :=
  bx (fX8_checkPart N Tn p1 p2) (fun z3 => some (.inl (z3, Ba))) (fun v3 =>
    bn (fX0_countAll N Tn Ta Ba p1 p2) (fun v16 =>
      some (.inr (v16.1, v16.2))))
def fX8_border (N : Nat) (Tn : Int32) (Ta : (Nat → Int32)) (Ba : (Nat → Int32)) (p1 : Int32) (p2 : Int32) : Option ((Nat × (Nat → Int32)) ⊕ (Int32 × (Nat → Int32))) :=
  bx (fX8_checkPart N Tn p1 p2) (fun z3 => some (.inl (z3, Ba))) (fun v3 =>
    bn (fX0_longest N Tn Ta Ba p1 p2) (fun v16 =>
      some (.inr (v16.1, v16.2))))
def fX8_rootLength (N : Nat) (Tn : Int32) (Ta : (Nat → Int32)) (Ba : (Nat → Int32)) (p1 : Int32) (p2 : Int32) : Option ((Nat × (Nat → Int32)) ⊕ (Int32 × (Nat → Int32))) :=
  bx (fX8_checkPart N Tn p1 p2) (fun z3 => some (.inl (z3, Ba))) (fun v3 =>
    bn (fX0_rootSize N Tn Ta Ba p1 p2) (fun v16 =>
      some (.inr (v16.1, v16.2))))
def fX8_quotient_J13 (N : Nat) (y0 : UInt64) : Option UInt64 :=
  some y0
def fX8_quotient (N : Nat) (p0 : Int32) (p1 : Int32) : Option UInt64 :=
  if p1 ≤ 0 then
    fX8_quotient_J13 N FP.dconst0
  else
    gd (nonan (FP.ddiv (FP.i2d p0) (FP.i2d p1))) (
      fX8_quotient_J13 N (FP.ddiv (FP.i2d p0) (FP.i2d p1)))
def fX8_exponent (N : Nat) (Tn : Int32) (Ta : (Nat → Int32)) (Ba : (Nat → Int32)) (p1 : Int32) (p2 : Int32) : Option ((Nat × (Nat → Int32)) ⊕ (UInt64 × (Nat → Int32))) :=
  bx (fX8_checkPart N Tn p1 p2) (fun z3 => some (.inl (z3, Ba))) (fun v3 =>
    bn (fX0_leastPeriod N Tn Ta Ba p1 p2) (fun v19 =>
      bn (fX8_quotient N (p2 - p1) v19.1) (fun v22 =>
        some (.inr (v22, v19.2)))))
def fX6_findOne_J115 (N : Nat) (Tn : Int32) (Ta : (Nat → Int32)) (Rn : Int32) (Ra : (Nat → Int32)) (Rb : (Nat → Int32)) (Rd : (Nat → Int32)) : Option (Int32 × (Nat → Int32) × (Nat → Int32) × (Nat → Int32)) :=
  some (Rn, Ra, Rb, Rd)
def fX6_findOne_J24 (N : Nat) (Tn : Int32) (Ta : (Nat → Int32)) (Rn : Int32) (Ra : (Nat → Int32)) (Rb : (Nat → Int32)) (Rd : (Nat → Int32)) (x2 : Int32) (x3 : Int32) : Option (Int32 × (Nat → Int32) × (Nat → Int32) × (Nat → Int32)) :=
  bn (fX2_countSame N Tn Ta x2 (x2 + x3)) (fun v32 =>
    if (((x2 + x3) + v32) - x2) < ((2 : Int32) * x3) then
      fX6_findOne_J115 N Tn Ta Rn Ra Rb Rd
    else
      bn (fX2_firstPeriod N Tn Ta x2 ((x2 + x3) + v32)) (fun v52 =>
        if v52 = x3 then
          if (64 : Int32) ≤ Rn then
            fX6_findOne_J115 N Tn Ta Rn Ra Rb Rd
          else
            bn (fX8_put N 64 Ra Rn x2) (fun v77 =>
              bn (fX8_put N 64 Rb Rn ((x2 + x3) + v32)) (fun v90 =>
                bn (fX8_put N 64 Rd Rn x3) (fun v102 =>
                  fX6_findOne_J115 N Tn Ta (Rn + (1 : Int32)) v77 v90 v102)))
        else
          fX6_findOne_J115 N Tn Ta Rn Ra Rb Rd))
def fX6_findOne (N : Nat) (Tn : Int32) (Ta : (Nat → Int32)) (Rn : Int32) (Ra : (Nat → Int32)) (Rb : (Nat → Int32)) (Rd : (Nat → Int32)) (p2 : Int32) (p3 : Int32) : Option (Int32 × (Nat → Int32) × (Nat → Int32) × (Nat → Int32)) :=
  if p2 ≤ 0 then
    fX6_findOne_J24 N Tn Ta Rn Ra Rb Rd p2 p3
  else
    bn (fX2_letter N Tn Ta (p2 - (1 : Int32))) (fun v8 =>
      bn (fX2_letter N Tn Ta ((p2 - (1 : Int32)) + p3)) (fun v17 =>
        if v8 = v17 then
          some (Rn, Ra, Rb, Rd)
        else
          fX6_findOne_J24 N Tn Ta Rn Ra Rb Rd p2 p3))
def fX6_find_J48 (N : Nat) (Tn : Int32) (Ta : (Nat → Int32)) (Rn : Int32) (Ra : (Nat → Int32)) (Rb : (Nat → Int32)) (Rd : (Nat → Int32)) : Option (Int32 × (Nat → Int32) × (Nat → Int32) × (Nat → Int32)) :=
  some (Rn, Ra, Rb, Rd)
def fX6_find_J42 (N : Nat) (Tn : Int32) (Ta : (Nat → Int32)) (k7 : Int32 → (Nat → Int32) → (Nat → Int32) → (Nat → Int32) → Int32 → Option (Int32 × (Nat → Int32) × (Nat → Int32) × (Nat → Int32))) (Rn : Int32) (Ra : (Nat → Int32)) (Rb : (Nat → Int32)) (Rd : (Nat → Int32)) (x2 : Int32) : Option (Int32 × (Nat → Int32) × (Nat → Int32) × (Nat → Int32)) :=
  k7 Rn Ra Rb Rd (x2 + 1)
def fX6_find_B17 (N : Nat) (Tn : Int32) (Ta : (Nat → Int32)) (k7 : Int32 → (Nat → Int32) → (Nat → Int32) → (Nat → Int32) → Int32 → Option (Int32 × (Nat → Int32) × (Nat → Int32) × (Nat → Int32))) (k17 : Int32 → (Nat → Int32) → (Nat → Int32) → (Nat → Int32) → Int32 → Int32 → Option (Int32 × (Nat → Int32) × (Nat → Int32) × (Nat → Int32))) (Rn : Int32) (Ra : (Nat → Int32)) (Rb : (Nat → Int32)) (Rd : (Nat → Int32)) (x2 : Int32) (x3 : Int32) : Option (Int32 × (Nat → Int32) × (Nat → Int32) × (Nat → Int32)) :=
  bn (fX2_count N Tn) (fun v23 =>
    if v23 < (x2 + ((2 : Int32) * x3)) then
      fX6_find_J42 N Tn Ta k7 Rn Ra Rb Rd x2
    else
      bn (fX6_findOne N Tn Ta Rn Ra Rb Rd x2 x3) (fun v33 =>
        k17 v33.1 v33.2.1 v33.2.2.1 v33.2.2.2 x2 (x3 + 1)))
def fX6_find_H17 (N : Nat) (Tn : Int32) (Ta : (Nat → Int32)) (k7 : Int32 → (Nat → Int32) → (Nat → Int32) → (Nat → Int32) → Int32 → Option (Int32 × (Nat → Int32) × (Nat → Int32) × (Nat → Int32))) : Nat → Int32 → (Nat → Int32) → (Nat → Int32) → (Nat → Int32) → Int32 → Int32 → Option (Int32 × (Nat → Int32) × (Nat → Int32) × (Nat → Int32))
  | 0, _, _, _, _, _, _ => none
  | n + 1, Rn, Ra, Rb, Rd, x2, x3 => fX6_find_B17 N Tn Ta k7 (fX6_find_H17 N Tn Ta k7 n) Rn Ra Rb Rd x2 x3
def fX6_find_B7 (N : Nat) (Tn : Int32) (Ta : (Nat → Int32)) (k7 : Int32 → (Nat → Int32) → (Nat → Int32) → (Nat → Int32) → Int32 → Option (Int32 × (Nat → Int32) × (Nat → Int32) × (Nat → Int32))) (Rn : Int32) (Ra : (Nat → Int32)) (Rb : (Nat → Int32)) (Rd : (Nat → Int32)) (x2 : Int32) : Option (Int32 × (Nat → Int32) × (Nat → Int32) × (Nat → Int32)) :=
  bn (fX2_count N Tn) (fun v9 =>
    if v9 ≤ x2 then
      fX6_find_J48 N Tn Ta Rn Ra Rb Rd
    else
      fX6_find_H17 N Tn Ta k7 N Rn Ra Rb Rd x2 (1 : Int32))
def fX6_find_H7 (N : Nat) (Tn : Int32) (Ta : (Nat → Int32)) : Nat → Int32 → (Nat → Int32) → (Nat → Int32) → (Nat → Int32) → Int32 → Option (Int32 × (Nat → Int32) × (Nat → Int32) × (Nat → Int32))
  | 0, _, _, _, _, _ => none
  | n + 1, Rn, Ra, Rb, Rd, x2 => fX6_find_B7 N Tn Ta (fX6_find_H7 N Tn Ta n) Rn Ra Rb Rd x2
def fX6_find (N : Nat) (Tn : Int32) (Ta : (Nat → Int32)) (Rn : Int32) (Ra : (Nat → Int32)) (Rb : (Nat → Int32)) (Rd : (Nat → Int32)) : Option (Int32 × (Nat → Int32) × (Nat → Int32) × (Nat → Int32)) :=
  fX6_find_H7 N Tn Ta N (0 : Int32) Ra Rb Rd (0 : Int32)
def fX6_count (N : Nat) (Rn : Int32) : Option Int32 :=
  some Rn
def fX8_runs (N : Nat) (Tn : Int32) (Ta : (Nat → Int32)) (Rn : Int32) (Ra : (Nat → Int32)) (Rb : (Nat → Int32)) (Rd : (Nat → Int32)) : Option (Int32 × Int32 × (Nat → Int32) × (Nat → Int32) × (Nat → Int32)) :=
  bn (fX6_find N Tn Ta Rn Ra Rb Rd) (fun v8 =>
    bn (fX6_count N v8.1) (fun v15 =>
      some (v15, v8.1, v8.2.1, v8.2.2.1, v8.2.2.2)))
def fX8_findRun (N : Nat) (Tn : Int32) (Ta : (Nat → Int32)) (Rn : Int32) (Ra : (Nat → Int32)) (Rb : (Nat → Int32)) (Rd : (Nat → Int32)) (p1 : Int32) : Option ((Nat × Int32 × (Nat → Int32) × (Nat → Int32) × (Nat → Int32)) ⊕ (Int32 × (Nat → Int32) × (Nat → Int32) × (Nat → Int32))) :=
  bn (fX6_find N Tn Ta Rn Ra Rb Rd) (fun v8 =>
    bn (fX6_count N v8.1) (fun v16 =>
      bx (fX8_checkIndex N p1 v16) (fun z19 => some (.inl (z19, v8.1, v8.2.1, v8.2.2.1, v8.2.2.2))) (fun v19 =>
        some (.inr (v8.1, v8.2.1, v8.2.2.1, v8.2.2.2)))))
def fX6_start (N : Nat) (Rn : Int32) (Ra : (Nat → Int32)) (p1 : Int32) : Option Int32 :=
  bn (fX8_at N 64 Ra p1) (fun v5 =>
    some v5)
def fX8_runStart (N : Nat) (Tn : Int32) (Ta : (Nat → Int32)) (Rn : Int32) (Ra : (Nat → Int32)) (Rb : (Nat → Int32)) (Rd : (Nat → Int32)) (p1 : Int32) : Option ((Nat × Int32 × (Nat → Int32) × (Nat → Int32) × (Nat → Int32)) ⊕ (Int32 × Int32 × (Nat → Int32) × (Nat → Int32) × (Nat → Int32))) :=
  bx (fX8_findRun N Tn Ta Rn Ra Rb Rd p1) (fun z2 => some (.inl (z2.1, z2.2.1, z2.2.2.1, z2.2.2.2.1, z2.2.2.2.2))) (fun v2 =>
    bn (fX6_start N v2.1 v2.2.1 p1) (fun v10 =>
      some (.inr (v10, v2.1, v2.2.1, v2.2.2.1, v2.2.2.2))))
def fX6_end (N : Nat) (Rn : Int32) (Rb : (Nat → Int32)) (p1 : Int32) : Option Int32 :=
  bn (fX8_at N 64 Rb p1) (fun v5 =>
    some v5)
def fX8_runEnd (N : Nat) (Tn : Int32) (Ta : (Nat → Int32)) (Rn : Int32) (Ra : (Nat → Int32)) (Rb : (Nat → Int32)) (Rd : (Nat → Int32)) (p1 : Int32) : Option ((Nat × Int32 × (Nat → Int32) × (Nat → Int32) × (Nat → Int32)) ⊕ (Int32 × Int32 × (Nat → Int32) × (Nat → Int32) × (Nat → Int32))) :=
  bx (fX8_findRun N Tn Ta Rn Ra Rb Rd p1) (fun z2 => some (.inl (z2.1, z2.2.1, z2.2.2.1, z2.2.2.2.1, z2.2.2.2.2))) (fun v2 =>
    bn (fX6_end N v2.1 v2.2.2.1 p1) (fun v10 =>
      some (.inr (v10, v2.1, v2.2.1, v2.2.2.1, v2.2.2.2))))
def fX6_leastPeriod (N : Nat) (Rn : Int32) (Rd : (Nat → Int32)) (p1 : Int32) : Option Int32 :=
  bn (fX8_at N 64 Rd p1) (fun v5 =>
    some v5)
def fX8_runPeriod (N : Nat) (Tn : Int32) (Ta : (Nat → Int32)) (Rn : Int32) (Ra : (Nat → Int32)) (Rb : (Nat → Int32)) (Rd : (Nat → Int32)) (p1 : Int32) : Option ((Nat × Int32 × (Nat → Int32) × (Nat → Int32) × (Nat → Int32)) ⊕ (Int32 × Int32 × (Nat → Int32) × (Nat → Int32) × (Nat → Int32))) :=
  bx (fX8_findRun N Tn Ta Rn Ra Rb Rd p1) (fun z2 => some (.inl (z2.1, z2.2.1, z2.2.2.1, z2.2.2.2.1, z2.2.2.2.2))) (fun v2 =>
    bn (fX6_leastPeriod N v2.1 v2.2.2.2 p1) (fun v10 =>
      some (.inr (v10, v2.1, v2.2.1, v2.2.2.1, v2.2.2.2))))
def fX8_runsOver_J70 (N : Nat) (Tn : Int32) (Ta : (Nat → Int32)) (Rn : Int32) (Ra : (Nat → Int32)) (Rb : (Nat → Int32)) (Rd : (Nat → Int32)) (x2 : Int32) : Option ((Nat × Int32 × (Nat → Int32) × (Nat → Int32) × (Nat → Int32)) ⊕ (Int32 × Int32 × (Nat → Int32) × (Nat → Int32) × (Nat → Int32))) :=
  some (.inr (x2, Rn, Ra, Rb, Rd))
def fX8_runsOver_J64 (N : Nat) (Tn : Int32) (Ta : (Nat → Int32)) (k26 : Int32 → (Nat → Int32) → (Nat → Int32) → (Nat → Int32) → Int32 → Int32 → Int32 → Option ((Nat × Int32 × (Nat → Int32) × (Nat → Int32) × (Nat → Int32)) ⊕ (Int32 × Int32 × (Nat → Int32) × (Nat → Int32) × (Nat → Int32)))) (Rn : Int32) (Ra : (Nat → Int32)) (Rb : (Nat → Int32)) (Rd : (Nat → Int32)) (x1 : Int32) (x2 : Int32) (x3 : Int32) : Option ((Nat × Int32 × (Nat → Int32) × (Nat → Int32) × (Nat → Int32)) ⊕ (Int32 × Int32 × (Nat → Int32) × (Nat → Int32) × (Nat → Int32))) :=
  k26 Rn Ra Rb Rd x1 x2 (x3 + 1)
def fX8_runsOver_B26 (N : Nat) (Tn : Int32) (Ta : (Nat → Int32)) (k26 : Int32 → (Nat → Int32) → (Nat → Int32) → (Nat → Int32) → Int32 → Int32 → Int32 → Option ((Nat × Int32 × (Nat → Int32) × (Nat → Int32) × (Nat → Int32)) ⊕ (Int32 × Int32 × (Nat → Int32) × (Nat → Int32) × (Nat → Int32)))) (Rn : Int32) (Ra : (Nat → Int32)) (Rb : (Nat → Int32)) (Rd : (Nat → Int32)) (x1 : Int32) (x2 : Int32) (x3 : Int32) : Option ((Nat × Int32 × (Nat → Int32) × (Nat → Int32) × (Nat → Int32)) ⊕ (Int32 × Int32 × (Nat → Int32) × (Nat → Int32) × (Nat → Int32))) :=
  bn (fX6_count N Rn) (fun v31 =>
    if v31 ≤ x3 then
      fX8_runsOver_J70 N Tn Ta Rn Ra Rb Rd x2
    else
      bn (fX6_start N Rn Ra x3) (fun v42 =>
        if x1 < v42 then
          fX8_runsOver_J64 N Tn Ta k26 Rn Ra Rb Rd x1 x2 x3
        else
          bn (fX6_end N Rn Rb x3) (fun v55 =>
            if v55 ≤ x1 then
              fX8_runsOver_J64 N Tn Ta k26 Rn Ra Rb Rd x1 x2 x3
            else
              fX8_runsOver_J64 N Tn Ta k26 Rn Ra Rb Rd x1 (x2 + 1) x3)))
def fX8_runsOver_H26 (N : Nat) (Tn : Int32) (Ta : (Nat → Int32)) : Nat → Int32 → (Nat → Int32) → (Nat → Int32) → (Nat → Int32) → Int32 → Int32 → Int32 → Option ((Nat × Int32 × (Nat → Int32) × (Nat → Int32) × (Nat → Int32)) ⊕ (Int32 × Int32 × (Nat → Int32) × (Nat → Int32) × (Nat → Int32)))
  | 0, _, _, _, _, _, _, _ => none
  | n + 1, Rn, Ra, Rb, Rd, x1, x2, x3 => fX8_runsOver_B26 N Tn Ta (fX8_runsOver_H26 N Tn Ta n) Rn Ra Rb Rd x1 x2 x3
def fX8_runsOver (N : Nat) (Tn : Int32) (Ta : (Nat → Int32)) (Rn : Int32) (Ra : (Nat → Int32)) (Rb : (Nat → Int32)) (Rd : (Nat → Int32)) (p1 : Int32) : Option ((Nat × Int32 × (Nat → Int32) × (Nat → Int32) × (Nat → Int32)) ⊕ (Int32 × Int32 × (Nat → Int32) × (Nat → Int32) × (Nat → Int32))) :=
  bn (fX2_count N Tn) (fun v5 =>
    bx (fX8_checkIndex N p1 v5) (fun z8 => some (.inl (z8, Rn, Ra, Rb, Rd))) (fun v8 =>
      bn (fX6_find N Tn Ta Rn Ra Rb Rd) (fun v19 =>
        fX8_runsOver_H26 N Tn Ta N v19.1 v19.2.1 v19.2.2.1 v19.2.2.2 p1 (0 : Int32) (0 : Int32))))
def fX6_size (N : Nat) (Rn : Int32) (Ra : (Nat → Int32)) (Rb : (Nat → Int32)) (p1 : Int32) : Option Int32 :=
  bn (fX8_at N 64 Rb p1) (fun v5 =>
    bn (fX8_at N 64 Ra p1) (fun v13 =>
      some (v5 - v13)))
def fX8_squares_J56 (N : Nat) (Tn : Int32) (Ta : (Nat → Int32)) (Rn : Int32) (Ra : (Nat → Int32)) (Rb : (Nat → Int32)) (Rd : (Nat → Int32)) (x1 : Int32) : Option (Int32 × Int32 × (Nat → Int32) × (Nat → Int32) × (Nat → Int32)) :=
  some (x1, Rn, Ra, Rb, Rd)
def fX8_squares_B15 (N : Nat) (Tn : Int32) (Ta : (Nat → Int32)) (k15 : Int32 → (Nat → Int32) → (Nat → Int32) → (Nat → Int32) → Int32 → Int32 → Option (Int32 × Int32 × (Nat → Int32) × (Nat → Int32) × (Nat → Int32))) (Rn : Int32) (Ra : (Nat → Int32)) (Rb : (Nat → Int32)) (Rd : (Nat → Int32)) (x1 : Int32) (x2 : Int32) : Option (Int32 × Int32 × (Nat → Int32) × (Nat → Int32) × (Nat → Int32)) :=
  bn (fX6_count N Rn) (fun v20 =>
    if v20 ≤ x2 then
      fX8_squares_J56 N Tn Ta Rn Ra Rb Rd x1
    else
      bn (fX6_size N Rn Ra Rb x2) (fun v32 =>
        bn (fX6_leastPeriod N Rn Rd x2) (fun v41 =>
          k15 Rn Ra Rb Rd (x1 + ((v32 - ((2 : Int32) * v41)) + (1 : Int32))) (x2 + 1))))
def fX8_squares_H15 (N : Nat) (Tn : Int32) (Ta : (Nat → Int32)) : Nat → Int32 → (Nat → Int32) → (Nat → Int32) → (Nat → Int32) → Int32 → Int32 → Option (Int32 × Int32 × (Nat → Int32) × (Nat → Int32) × (Nat → Int32))
  | 0, _, _, _, _, _, _ => none
  | n + 1, Rn, Ra, Rb, Rd, x1, x2 => fX8_squares_B15 N Tn Ta (fX8_squares_H15 N Tn Ta n) Rn Ra Rb Rd x1 x2
def fX8_squares (N : Nat) (Tn : Int32) (Ta : (Nat → Int32)) (Rn : Int32) (Ra : (Nat → Int32)) (Rb : (Nat → Int32)) (Rd : (Nat → Int32)) : Option (Int32 × Int32 × (Nat → Int32) × (Nat → Int32) × (Nat → Int32)) :=
  bn (fX6_find N Tn Ta Rn Ra Rb Rd) (fun v8 =>
    fX8_squares_H15 N Tn Ta N v8.1 v8.2.1 v8.2.2.1 v8.2.2.2 (0 : Int32) (0 : Int32))
def fX7_isLess_J59 (N : Nat) (Tn : Int32) (Ta : (Nat → Int32)) (Ua : (Nat → Int32)) (y0 : Int32) : Option Int32 :=
  gd (isB y0) (some y0)
def fX7_isLess (N : Nat) (Tn : Int32) (Ta : (Nat → Int32)) (Ua : (Nat → Int32)) (p2 : Int32) (p3 : Int32) : Option Int32 :=
  bn (fX2_letter N Tn Ta p2) (fun v2 =>
    bn (fX2_letter N Tn Ta p3) (fun v7 =>
      if (v2 - v7) = 0 then
        bn (fX8_at N 65 Ua (p2 + (1 : Int32))) (fun v38 =>
          bn (fX8_at N 65 Ua (p3 + (1 : Int32))) (fun v48 =>
            if v48 ≤ v38 then
              fX7_isLess_J59 N Tn Ta Ua (0 : Int32)
            else
              fX7_isLess_J59 N Tn Ta Ua (1 : Int32)))
      else
        if 0 ≤ (v2 - v7) then
          fX7_isLess_J59 N Tn Ta Ua (0 : Int32)
        else
          fX7_isLess_J59 N Tn Ta Ua (1 : Int32)))
def fX7_putInOrder_J89 (N : Nat) (Tn : Int32) (Ta : (Nat → Int32)) (Ua : (Nat → Int32)) (x2 : Int32) (x3 : Int32) : Option (Nat → Int32) :=
  bn (fX8_put N 65 Ua x2 x3) (fun v95 =>
    some v95)
def fX7_putInOrder_J83 (N : Nat) (Tn : Int32) (Ta : (Nat → Int32)) (k41 : (Nat → Int32) → Int32 → Int32 → Int32 → Option (Nat → Int32)) (Ua : (Nat → Int32)) (x2 : Int32) (x3 : Int32) (x4 : Int32) : Option (Nat → Int32) :=
  k41 Ua x2 x3 (x4 + 1)
def fX7_putInOrder_B41 (N : Nat) (Tn : Int32) (Ta : (Nat → Int32)) (k41 : (Nat → Int32) → Int32 → Int32 → Int32 → Option (Nat → Int32)) (Ua : (Nat → Int32)) (x2 : Int32) (x3 : Int32) (x4 : Int32) : Option (Nat → Int32) :=
  bn (fX2_count N Tn) (fun v44 =>
    if v44 ≤ x4 then
      fX7_putInOrder_J89 N Tn Ta Ua x2 x3
    else
      bn (fX8_at N 65 Ua x4) (fun v56 =>
        if v56 < x3 then
          fX7_putInOrder_J83 N Tn Ta k41 Ua x2 x3 x4
        else
          bn (fX8_at N 65 Ua x4) (fun v75 =>
            bn (fX8_put N 65 Ua x4 (v75 + (1 : Int32))) (fun v80 =>
              fX7_putInOrder_J83 N Tn Ta k41 v80 x2 x3 x4))))
def fX7_putInOrder_H41 (N : Nat) (Tn : Int32) (Ta : (Nat → Int32)) : Nat → (Nat → Int32) → Int32 → Int32 → Int32 → Option (Nat → Int32)
  | 0, _, _, _, _ => none
  | n + 1, Ua, x2, x3, x4 => fX7_putInOrder_B41 N Tn Ta (fX7_putInOrder_H41 N Tn Ta n) Ua x2 x3 x4
def fX7_putInOrder_J36 (N : Nat) (Tn : Int32) (Ta : (Nat → Int32)) (Ua : (Nat → Int32)) (x2 : Int32) (x3 : Int32) : Option (Nat → Int32) :=
  fX7_putInOrder_H41 N Tn Ta N Ua x2 x3 (x2 + (1 : Int32))
def fX7_putInOrder_J30 (N : Nat) (Tn : Int32) (Ta : (Nat → Int32)) (k7 : (Nat → Int32) → Int32 → Int32 → Int32 → Option (Nat → Int32)) (Ua : (Nat → Int32)) (x2 : Int32) (x3 : Int32) (x4 : Int32) : Option (Nat → Int32) :=
  k7 Ua x2 x3 (x4 + 1)
def fX7_putInOrder_B7 (N : Nat) (Tn : Int32) (Ta : (Nat → Int32)) (k7 : (Nat → Int32) → Int32 → Int32 → Int32 → Option (Nat → Int32)) (Ua : (Nat → Int32)) (x2 : Int32) (x3 : Int32) (x4 : Int32) : Option (Nat → Int32) :=
  bn (fX2_count N Tn) (fun v10 =>
    if v10 ≤ x4 then
      fX7_putInOrder_J36 N Tn Ta Ua x2 x3
    else
      bn (fX7_isLess N Tn Ta Ua x4 x2) (fun v21 =>
        if v21 = 0 then
          fX7_putInOrder_J30 N Tn Ta k7 Ua x2 x3 x4
        else
          fX7_putInOrder_J30 N Tn Ta k7 Ua x2 (x3 + 1) x4))
def fX7_putInOrder_H7 (N : Nat) (Tn : Int32) (Ta : (Nat → Int32)) : Nat → (Nat → Int32) → Int32 → Int32 → Int32 → Option (Nat → Int32)
  | 0, _, _, _, _ => none
  | n + 1, Ua, x2, x3, x4 => fX7_putInOrder_B7 N Tn Ta (fX7_putInOrder_H7 N Tn Ta n) Ua x2 x3 x4
def fX7_putInOrder (N : Nat) (Tn : Int32) (Ta : (Nat → Int32)) (Ua : (Nat → Int32)) (p2 : Int32) : Option (Nat → Int32) :=
  fX7_putInOrder_H7 N Tn Ta N Ua p2 (0 : Int32) (p2 + (1 : Int32))
def fX7_find_J35 (N : Nat) (Tn : Int32) (Ta : (Nat → Int32)) (Ua : (Nat → Int32)) : Option (Nat → Int32) :=
  some Ua
def fX7_find_B19 (N : Nat) (Tn : Int32) (Ta : (Nat → Int32)) (k19 : (Nat → Int32) → Int32 → Option (Nat → Int32)) (Ua : (Nat → Int32)) (x2 : Int32) : Option (Nat → Int32) :=
  if x2 < 0 then
    fX7_find_J35 N Tn Ta Ua
  else
    bn (fX7_putInOrder N Tn Ta Ua x2) (fun v26 =>
      k19 v26 (x2 + (-1 : Int32)))
def fX7_find_H19 (N : Nat) (Tn : Int32) (Ta : (Nat → Int32)) : Nat → (Nat → Int32) → Int32 → Option (Nat → Int32)
  | 0, _, _ => none
  | n + 1, Ua, x2 => fX7_find_B19 N Tn Ta (fX7_find_H19 N Tn Ta n) Ua x2
def fX7_find (N : Nat) (Tn : Int32) (Ta : (Nat → Int32)) (Ua : (Nat → Int32)) : Option (Nat → Int32) :=
  bn (fX2_count N Tn) (fun v5 =>
    bn (fX8_put N 65 Ua v5 (-1 : Int32)) (fun v9 =>
      bn (fX2_count N Tn) (fun v13 =>
        fX7_find_H19 N Tn Ta N v9 (v13 - (1 : Int32)))))
def fX7_rank (N : Nat) (Ua : (Nat → Int32)) (p1 : Int32) : Option Int32 :=
  bn (fX8_at N 65 Ua p1) (fun v5 =>
    some v5)
def fX8_suffixAt_J55 (N : Nat) (Tn : Int32) (Ta : (Nat → Int32)) (Ua : (Nat → Int32)) (x2 : Int32) : Option ((Nat × (Nat → Int32)) ⊕ (Int32 × (Nat → Int32))) :=
  some (.inr (x2, Ua))
def fX8_suffixAt_B24 (N : Nat) (Tn : Int32) (Ta : (Nat → Int32)) (k24 : (Nat → Int32) → Int32 → Int32 → Option ((Nat × (Nat → Int32)) ⊕ (Int32 × (Nat → Int32)))) (Ua : (Nat → Int32)) (x1 : Int32) (x2 : Int32) : Option ((Nat × (Nat → Int32)) ⊕ (Int32 × (Nat → Int32))) :=
  bn (fX2_count N Tn) (fun v29 =>
    if (v29 - (1 : Int32)) ≤ x2 then
      fX8_suffixAt_J55 N Tn Ta Ua x2
    else
      bn (fX7_rank N Ua x2) (fun v42 =>
        if v42 = x1 then
          fX8_suffixAt_J55 N Tn Ta Ua x2
        else
          k24 Ua x1 (x2 + 1)))
def fX8_suffixAt_H24 (N : Nat) (Tn : Int32) (Ta : (Nat → Int32)) : Nat → (Nat → Int32) → Int32 → Int32 → Option ((Nat × (Nat → Int32)) ⊕ (Int32 × (Nat → Int32)))
  | 0, _, _, _ => none
  | n + 1, Ua, x1, x2 => fX8_suffixAt_B24 N Tn Ta (fX8_suffixAt_H24 N Tn Ta n) Ua x1 x2
def fX8_suffixAt (N : Nat) (Tn : Int32) (Ta : (Nat → Int32)) (Ua : (Nat → Int32)) (p1 : Int32) : Option ((Nat × (Nat → Int32)) ⊕ (Int32 × (Nat → Int32))) :=
  bn (fX2_count N Tn) (fun v5 =>
    bx (fX8_checkIndex N p1 v5) (fun z8 => some (.inl (z8, Ua))) (fun v8 =>
      bn (fX7_find N Tn Ta Ua) (fun v19 =>
        fX8_suffixAt_H24 N Tn Ta N v19 p1 (0 : Int32))))
def fX8_rankOf (N : Nat) (Tn : Int32) (Ta : (Nat → Int32)) (Ua : (Nat → Int32)) (p1 : Int32) : Option ((Nat × (Nat → Int32)) ⊕ (Int32 × (Nat → Int32))) :=
  bn (fX2_count N Tn) (fun v5 =>
    bx (fX8_checkIndex N p1 v5) (fun z8 => some (.inl (z8, Ua))) (fun v8 =>
      bn (fX7_find N Tn Ta Ua) (fun v19 =>
        bn (fX7_rank N v19 p1) (fun v27 =>
          some (.inr (v27, v19))))))
def fL_low (N : Nat) (p0 : Int32) (p1 : Int32) : Option Int32 :=
  gd (nz p1) (
    some ((p0 &&& (2147483647 : Int32)) - (p0 &&& (2147483647 : Int32)) / p1 * p1))
def fL_append (N : Nat) (Tn : Int32) (Ta : (Nat → Int32)) (p1 : Int32) : Option (Int32 × Int32 × (Nat → Int32)) :=
  bx (fX8_append N Tn Ta p1) (fun z2 => if z2.1 = 1 then some ((-99999 : Int32), z2.2.1, z2.2.2) else if z2.1 = 2 then some ((-99999 : Int32), z2.2.1, z2.2.2) else none) (fun v2 =>
    some (v2.1, v2.2.1, v2.2.2))
def fL_insert (N : Nat) (Tn : Int32) (Ta : (Nat → Int32)) (p1 : Int32) (p2 : Int32) : Option (Int32 × Int32 × (Nat → Int32)) :=
  bx (fX8_insert N Tn Ta p1 p2) (fun z3 => if z3.1 = 0 then some ((-99999 : Int32), z3.2.1, z3.2.2) else if z3.1 = 1 then some ((-99999 : Int32), z3.2.1, z3.2.2) else if z3.1 = 2 then some ((-99999 : Int32), z3.2.1, z3.2.2) else none) (fun v3 =>
    some (v3.1, v3.2.1, v3.2.2))
def fL_set (N : Nat) (Tn : Int32) (Ta : (Nat → Int32)) (p1 : Int32) (p2 : Int32) : Option (Int32 × (Nat → Int32)) :=
  bx (fX8_set N Tn Ta p1 p2) (fun z3 => if z3.1 = 0 then some ((-99999 : Int32), z3.2) else if z3.1 = 1 then some ((-99999 : Int32), z3.2) else none) (fun v3 =>
    some (v3.1, v3.2))
def fL_remove (N : Nat) (Tn : Int32) (Ta : (Nat → Int32)) (p1 : Int32) : Option (Int32 × Int32 × (Nat → Int32)) :=
  bx (fX8_remove N Tn Ta p1) (fun z2 => if z2.1 = 0 then some ((-99999 : Int32), z2.2.1, z2.2.2) else none) (fun v2 =>
    some (v2.1, v2.2.1, v2.2.2))
def fL_rotate (N : Nat) (Tn : Int32) (Ta : (Nat → Int32)) (p1 : Int32) : Option (Int32 × (Nat → Int32)) :=
  bx (fX8_rotate N Tn Ta p1) (fun z2 => if z2.1 = 1 then some ((-99999 : Int32), z2.2) else if z2.1 = 2 then some ((-99999 : Int32), z2.2) else none) (fun v2 =>
    some (v2.1, v2.2))
def fL_copy (N : Nat) (Tn : Int32) (Ta : (Nat → Int32)) (p1 : Int32) (p2 : Int32) : Option (Int32 × Int32 × (Nat → Int32)) :=
  bx (fX8_appendPart N Tn Ta p1 p2) (fun z3 => if z3.1 = 0 then some ((-99999 : Int32), z3.2.1, z3.2.2) else if z3.1 = 2 then some ((-99999 : Int32), z3.2.1, z3.2.2) else none) (fun v3 =>
    some (v3.1, v3.2.1, v3.2.2))
def fL_deBruijn (N : Nat) (Tn : Int32) (Ta : (Nat → Int32)) (Wg : Int32) (Wz : Int32) (Ww : Int32) (Wr : Int32) (p1 : Int32) (p2 : Int32) : Option (Int32 × Int32 × (Nat → Int32) × Int32 × Int32 × Int32 × Int32) :=
  bx (fX8_loadDeBruijn N Tn Ta Wg Wz Ww Wr p1 p2) (fun z3 => if z3.1 = 1 then some ((-99999 : Int32), z3.2.1, z3.2.2.1, z3.2.2.2.1, z3.2.2.2.2.1, z3.2.2.2.2.2.1, z3.2.2.2.2.2.2) else none) (fun v3 =>
    some (v3.1, v3.2.1, v3.2.2.1, v3.2.2.2.1, v3.2.2.2.2.1, v3.2.2.2.2.2.1, v3.2.2.2.2.2.2))
def fL_necklace (N : Nat) (Tn : Int32) (Ta : (Nat → Int32)) (Wg : Int32) (Wz : Int32) (Ww : Int32) (Wr : Int32) (p1 : Int32) (p2 : Int32) (p3 : Int32) : Option (Int32 × Int32 × (Nat → Int32) × Int32 × Int32 × Int32 × Int32) :=
  bx (fX8_loadNecklace N Tn Ta Wg Wz Ww Wr p1 p2 p3) (fun z4 => if z4.1 = 1 then some ((-99999 : Int32), z4.2.1, z4.2.2.1, z4.2.2.2.1, z4.2.2.2.2.1, z4.2.2.2.2.2.1, z4.2.2.2.2.2.2) else none) (fun v4 =>
    some (v4.1, v4.2.1, v4.2.2.1, v4.2.2.2.1, v4.2.2.2.2.1, v4.2.2.2.2.2.1, v4.2.2.2.2.2.2))
def fL_act_J132 (N : Nat) (Tn : Int32) (Ta : (Nat → Int32)) (Wg : Int32) (Wz : Int32) (Ww : Int32) (Wr : Int32) (x4 : Int32) (x5 : Int32) : Option (Int32 × Int32 × (Nat → Int32) × Int32 × Int32 × Int32 × Int32) :=
  bn (fL_insert N Tn Ta x5 x4) (fun v137 =>
    some (v137.1, v137.2.1, v137.2.2, Wg, Wz, Ww, Wr))
def fL_act_J222 (N : Nat) (Tn : Int32) (Ta : (Nat → Int32)) (Wg : Int32) (Wz : Int32) (Ww : Int32) (Wr : Int32) (y0 : Int32) : Option (Int32 × Int32 × (Nat → Int32) × Int32 × Int32 × Int32 × Int32) :=
  some (y0, Tn, Ta, Wg, Wz, Ww, Wr)
def fL_act_J201 (N : Nat) (Tn : Int32) (Ta : (Nat → Int32)) (Wg : Int32) (Wz : Int32) (Ww : Int32) (Wr : Int32) (x1 : Int32) : Option (Int32 × Int32 × (Nat → Int32) × Int32 × Int32 × Int32 × Int32) :=
  if ((x1 >>> ((12 : Int32) &&& 31)) &&& (7 : Int32)) = 0 then
    bn (fX8_clear N Tn) (fun v212 =>
      fL_act_J222 N v212.2 Ta Wg Wz Ww Wr v212.1)
  else
    bn (fX8_reverse N Tn Ta) (fun v219 =>
      fL_act_J222 N Tn v219.2 Wg Wz Ww Wr v219.1)
def fL_act_J300 (N : Nat) (Tn : Int32) (Ta : (Nat → Int32)) (Wg : Int32) (Wz : Int32) (Ww : Int32) (Wr : Int32) (x4 : Int32) : Option (Int32 × Int32 × (Nat → Int32) × Int32 × Int32 × Int32 × Int32) :=
  bn (fL_append N Tn Ta x4) (fun v303 =>
    some (v303.1, v303.2.1, v303.2.2, Wg, Wz, Ww, Wr))
def fL_act_J141 (N : Nat) (Tn : Int32) (Ta : (Nat → Int32)) (Wg : Int32) (Wz : Int32) (Ww : Int32) (Wr : Int32) (x4 : Int32) (x5 : Int32) : Option (Int32 × Int32 × (Nat → Int32) × Int32 × Int32 × Int32 × Int32) :=
  bn (fL_set N Tn Ta x5 x4) (fun v146 =>
    some (v146.1, Tn, v146.2, Wg, Wz, Ww, Wr))
def fL_act_J180 (N : Nat) (Tn : Int32) (Ta : (Nat → Int32)) (Wg : Int32) (Wz : Int32) (Ww : Int32) (Wr : Int32) (x1 : Int32) (x5 : Int32) : Option (Int32 × Int32 × (Nat → Int32) × Int32 × Int32 × Int32 × Int32) :=
  bn (fL_low N (x1 >>> ((14 : Int32) &&& 31)) (6 : Int32)) (fun v193 =>
    bn (fL_copy N Tn Ta x5 ((x5 + (1 : Int32)) + v193)) (fun v197 =>
      some (v197.1, v197.2.1, v197.2.2, Wg, Wz, Ww, Wr)))
def fL_act_J150 (N : Nat) (Tn : Int32) (Ta : (Nat → Int32)) (Wg : Int32) (Wz : Int32) (Ww : Int32) (Wr : Int32) (x5 : Int32) : Option (Int32 × Int32 × (Nat → Int32) × Int32 × Int32 × Int32 × Int32) :=
  bn (fL_remove N Tn Ta x5) (fun v153 =>
    some (v153.1, v153.2.1, v153.2.2, Wg, Wz, Ww, Wr))
def fL_act_J173 (N : Nat) (Tn : Int32) (Ta : (Nat → Int32)) (Wg : Int32) (Wz : Int32) (Ww : Int32) (Wr : Int32) (y1 : Int32) (y2 : Int32) : Option (Int32 × Int32 × (Nat → Int32) × Int32 × Int32 × Int32 × Int32) :=
  bn (fL_low N y1 y2) (fun v173 =>
    bn (fL_rotate N Tn Ta v173) (fun v176 =>
      some (v176.1, Tn, v176.2, Wg, Wz, Ww, Wr)))
def fL_act_J157 (N : Nat) (Tn : Int32) (Ta : (Nat → Int32)) (Wg : Int32) (Wz : Int32) (Ww : Int32) (Wr : Int32) (x1 : Int32) (x2 : Int32) : Option (Int32 × Int32 × (Nat → Int32) × Int32 × Int32 × Int32 × Int32) :=
  if x2 = 0 then
    fL_act_J173 N Tn Ta Wg Wz Ww Wr (x1 >>> ((8 : Int32) &&& 31)) (64 : Int32)
  else
    fL_act_J173 N Tn Ta Wg Wz Ww Wr (x1 >>> ((8 : Int32) &&& 31)) (70 : Int32)
def fL_act_J299 (N : Nat) (Tn : Int32) (Ta : (Nat → Int32)) (Wg : Int32) (Wz : Int32) (Ww : Int32) (Wr : Int32) (y0 : Int32) : Option (Int32 × Int32 × (Nat → Int32) × Int32 × Int32 × Int32 × Int32) :=
  some (y0, Tn, Ta, Wg, Wz, Ww, Wr)
def fL_act_J293 (N : Nat) (Tn : Int32) (Ta : (Nat → Int32)) (Wg : Int32) (Wz : Int32) (Ww : Int32) (Wr : Int32) (y1 : Int32) (y2 : Int32) (y3 : Int32) (y4 : Int32) : Option (Int32 × Int32 × (Nat → Int32) × Int32 × Int32 × Int32 × Int32) :=
  bn (fL_low N y3 y4) (fun v293 =>
    bn (fL_necklace N Tn Ta Wg Wz Ww Wr y1 y2 v293) (fun v296 =>
      fL_act_J299 N v296.2.1 v296.2.2.1 v296.2.2.2.1 v296.2.2.2.2.1 v296.2.2.2.2.2.1 v296.2.2.2.2.2.2 v296.1))
def fL_act_J223 (N : Nat) (Tn : Int32) (Ta : (Nat → Int32)) (Wg : Int32) (Wz : Int32) (Ww : Int32) (Wr : Int32) (x1 : Int32) (x2 : Int32) : Option (Int32 × Int32 × (Nat → Int32) × Int32 × Int32 × Int32 × Int32) :=
  if ((x1 >>> ((12 : Int32) &&& 31)) &&& (1 : Int32)) = 0 then
    bn (fL_low N (x1 >>> ((5 : Int32) &&& 31)) (10 : Int32)) (fun v238 =>
      bn (fL_low N (x1 >>> ((9 : Int32) &&& 31)) (8 : Int32)) (fun v247 =>
        bn (fL_deBruijn N Tn Ta Wg Wz Ww Wr v238 v247) (fun v250 =>
          fL_act_J299 N v250.2.1 v250.2.2.1 v250.2.2.2.1 v250.2.2.2.2.1 v250.2.2.2.2.2.1 v250.2.2.2.2.2.2 v250.1)))
  else
    bn (fL_low N (x1 >>> ((5 : Int32) &&& 31)) (4 : Int32)) (fun v262 =>
      bn (fL_low N (x1 >>> ((8 : Int32) &&& 31)) (8 : Int32)) (fun v273 =>
        if x2 = 0 then
          fL_act_J293 N Tn Ta Wg Wz Ww Wr ((1 : Int32) + v262) ((1 : Int32) + v273) (x1 >>> ((13 : Int32) &&& 31)) (12 : Int32)
        else
          fL_act_J293 N Tn Ta Wg Wz Ww Wr ((1 : Int32) + v262) ((1 : Int32) + v273) (x1 >>> ((13 : Int32) &&& 31)) (9999 : Int32)))
def fL_act_J76 (N : Nat) (Tn : Int32) (Ta : (Nat → Int32)) (Wg : Int32) (Wz : Int32) (Ww : Int32) (Wr : Int32) (x1 : Int32) (x2 : Int32) (x4 : Int32) (y0 : Int32) : Option (Int32 × Int32 × (Nat → Int32) × Int32 × Int32 × Int32 × Int32) :=
  bn (fL_low N x1 (16 : Int32)) (fun v81 =>
    if (v81).toInt < 0 ∨ 7 < (v81).toInt then fL_act_J300 N Tn Ta Wg Wz Ww Wr x4 else
    if (v81).toInt = 0 then fL_act_J132 N Tn Ta Wg Wz Ww Wr x4 y0 else
    if (v81).toInt = 1 then fL_act_J141 N Tn Ta Wg Wz Ww Wr x4 y0 else
    if (v81).toInt = 2 then fL_act_J150 N Tn Ta Wg Wz Ww Wr y0 else
    if (v81).toInt = 3 then fL_act_J157 N Tn Ta Wg Wz Ww Wr x1 x2 else
    if (v81).toInt = 4 then fL_act_J180 N Tn Ta Wg Wz Ww Wr x1 y0 else
    if (v81).toInt = 5 then fL_act_J180 N Tn Ta Wg Wz Ww Wr x1 y0 else
    if (v81).toInt = 6 then fL_act_J201 N Tn Ta Wg Wz Ww Wr x1 else
    fL_act_J223 N Tn Ta Wg Wz Ww Wr x1 x2)
def fL_act_J55 (N : Nat) (Tn : Int32) (Ta : (Nat → Int32)) (Wg : Int32) (Wz : Int32) (Ww : Int32) (Wr : Int32) (x1 : Int32) (x2 : Int32) (x3 : Int32) (y0 : Int32) (y1 : Int32) : Option (Int32 × Int32 × (Nat → Int32) × Int32 × Int32 × Int32 × Int32) :=
  bn (fL_low N y0 y1) (fun v55 =>
    if x3 = 0 then
      fL_act_J76 N Tn Ta Wg Wz Ww Wr x1 x2 v55 (0 : Int32)
    else
      bn (fL_low N (x1 >>> ((8 : Int32) &&& 31)) x3) (fun v73 =>
        fL_act_J76 N Tn Ta Wg Wz Ww Wr x1 x2 v55 v73))
def fL_act_J31 (N : Nat) (Tn : Int32) (Ta : (Nat → Int32)) (Wg : Int32) (Wz : Int32) (Ww : Int32) (Wr : Int32) (x1 : Int32) (x2 : Int32) (y0 : Int32) (y1 : Int32) : Option (Int32 × Int32 × (Nat → Int32) × Int32 × Int32 × Int32 × Int32) :=
  if x2 = 0 then
    bn (fL_low N (x1 >>> ((26 : Int32) &&& 31)) (3 : Int32)) (fun v51 =>
      fL_act_J55 N Tn Ta Wg Wz Ww Wr x1 x2 (y0 + y1) (x1 >>> ((5 : Int32) &&& 31)) ((1 : Int32) + v51))
  else
    fL_act_J55 N Tn Ta Wg Wz Ww Wr x1 x2 (y0 + y1) (x1 >>> ((5 : Int32) &&& 31)) (28 : Int32)
def fL_act_J17 (N : Nat) (Tn : Int32) (Ta : (Nat → Int32)) (Wg : Int32) (Wz : Int32) (Ww : Int32) (Wr : Int32) (x1 : Int32) (y0 : Int32) : Option (Int32 × Int32 × (Nat → Int32) × Int32 × Int32 × Int32 × Int32) :=
  bn (fX8_length N Tn) (fun v19 =>
    if y0 = 0 then
      fL_act_J31 N Tn Ta Wg Wz Ww Wr x1 y0 v19 (0 : Int32)
    else
      fL_act_J31 N Tn Ta Wg Wz Ww Wr x1 y0 v19 (1 : Int32))
def fL_act (N : Nat) (Tn : Int32) (Ta : (Nat → Int32)) (Wg : Int32) (Wz : Int32) (Ww : Int32) (Wr : Int32) (p1 : Int32) : Option (Int32 × Int32 × (Nat → Int32) × Int32 × Int32 × Int32 × Int32) :=
  bn (fL_low N (p1 >>> ((22 : Int32) &&& 31)) (8 : Int32)) (fun v6 =>
    if v6 = 0 then
      fL_act_J17 N Tn Ta Wg Wz Ww Wr p1 (1 : Int32)
    else
      fL_act_J17 N Tn Ta Wg Wz Ww Wr p1 (0 : Int32))
def fL_areAlike_J78 (N : Nat) (Tn : Int32) (Ta : (Nat → Int32)) (QTn : Int32) (QTa : (Nat → Int32)) (Fn : Int32) (Fa : (Nat → Int32)) (Rn : Int32) (Ra : (Nat → Int32)) (Rb : (Nat → Int32)) (Rd : (Nat → Int32)) (QFn : Int32) (QFa : (Nat → Int32)) (QRn : Int32) (QRa : (Nat → Int32)) (QRb : (Nat → Int32)) (QRd : (Nat → Int32)) (x2 : Int32) : Option (Int32 × Int32 × (Nat → Int32) × Int32 × (Nat → Int32) × (Nat → Int32) × (Nat → Int32) × Int32 × (Nat → Int32) × Int32 × (Nat → Int32) × (Nat → Int32) × (Nat → Int32)) :=
  gd (isB x2) (some (x2, Fn, Fa, Rn, Ra, Rb, Rd, QFn, QFa, QRn, QRa, QRb, QRd))
def fL_areAlike_J71 (N : Nat) (Tn : Int32) (Ta : (Nat → Int32)) (QTn : Int32) (QTa : (Nat → Int32)) (k41 : Int32 → (Nat → Int32) → Int32 → (Nat → Int32) → (Nat → Int32) → (Nat → Int32) → Int32 → (Nat → Int32) → Int32 → (Nat → Int32) → (Nat → Int32) → (Nat → Int32) → Int32 → Int32 → Option (Int32 × Int32 × (Nat → Int32) × Int32 × (Nat → Int32) × (Nat → Int32) × (Nat → Int32) × Int32 × (Nat → Int32) × Int32 × (Nat → Int32) × (Nat → Int32) × (Nat → Int32))) (Fn : Int32) (Fa : (Nat → Int32)) (Rn : Int32) (Ra : (Nat → Int32)) (Rb : (Nat → Int32)) (Rd : (Nat → Int32)) (QFn : Int32) (QFa : (Nat → Int32)) (QRn : Int32) (QRa : (Nat → Int32)) (QRb : (Nat → Int32)) (QRd : (Nat → Int32)) (x3 : Int32) (y0 : Int32) : Option (Int32 × Int32 × (Nat → Int32) × Int32 × (Nat → Int32) × (Nat → Int32) × (Nat → Int32) × Int32 × (Nat → Int32) × Int32 × (Nat → Int32) × (Nat → Int32) × (Nat → Int32)) :=
  k41 Fn Fa Rn Ra Rb Rd QFn QFa QRn QRa QRb QRd y0 (x3 + 1)
def fL_areAlike_B41 (N : Nat) (Tn : Int32) (Ta : (Nat → Int32)) (QTn : Int32) (QTa : (Nat → Int32)) (k41 : Int32 → (Nat → Int32) → Int32 → (Nat → Int32) → (Nat → Int32) → (Nat → Int32) → Int32 → (Nat → Int32) → Int32 → (Nat → Int32) → (Nat → Int32) → (Nat → Int32) → Int32 → Int32 → Option (Int32 × Int32 × (Nat → Int32) × Int32 × (Nat → Int32) × (Nat → Int32) × (Nat → Int32) × Int32 × (Nat → Int32) × Int32 × (Nat → Int32) × (Nat → Int32) × (Nat → Int32))) (Fn : Int32) (Fa : (Nat → Int32)) (Rn : Int32) (Ra : (Nat → Int32)) (Rb : (Nat → Int32)) (Rd : (Nat → Int32)) (QFn : Int32) (QFa : (Nat → Int32)) (QRn : Int32) (QRa : (Nat → Int32)) (QRb : (Nat → Int32)) (QRd : (Nat → Int32)) (x2 : Int32) (x3 : Int32) : Option (Int32 × Int32 × (Nat → Int32) × Int32 × (Nat → Int32) × (Nat → Int32) × (Nat → Int32) × Int32 × (Nat → Int32) × Int32 × (Nat → Int32) × (Nat → Int32) × (Nat → Int32)) :=
  bn (fX8_length N Tn) (fun v43 =>
    if v43 ≤ x3 then
      fL_areAlike_J78 N Tn Ta QTn QTa Fn Fa Rn Ra Rb Rd QFn QFa QRn QRa QRb QRd x2
    else
      if x2 = 0 then
        fL_areAlike_J78 N Tn Ta QTn QTa Fn Fa Rn Ra Rb Rd QFn QFa QRn QRa QRb QRd x2
      else
        bx (fX8_letterAt N Tn Ta x3) (fun z55 => none) (fun v55 =>
          bx (fX8_letterAt N QTn QTa x3) (fun z60 => none) (fun v60 =>
            if v55 = v60 then
              fL_areAlike_J71 N Tn Ta QTn QTa k41 Fn Fa Rn Ra Rb Rd QFn QFa QRn QRa QRb QRd x3 (1 : Int32)
            else
              fL_areAlike_J71 N Tn Ta QTn QTa k41 Fn Fa Rn Ra Rb Rd QFn QFa QRn QRa QRb QRd x3 (0 : Int32))))
def fL_areAlike_H41 (N : Nat) (Tn : Int32) (Ta : (Nat → Int32)) (QTn : Int32) (QTa : (Nat → Int32)) : Nat → Int32 → (Nat → Int32) → Int32 → (Nat → Int32) → (Nat → Int32) → (Nat → Int32) → Int32 → (Nat → Int32) → Int32 → (Nat → Int32) → (Nat → Int32) → (Nat → Int32) → Int32 → Int32 → Option (Int32 × Int32 × (Nat → Int32) × Int32 × (Nat → Int32) × (Nat → Int32) × (Nat → Int32) × Int32 × (Nat → Int32) × Int32 × (Nat → Int32) × (Nat → Int32) × (Nat → Int32))
  | 0, _, _, _, _, _, _, _, _, _, _, _, _, _, _ => none
  | n + 1, Fn, Fa, Rn, Ra, Rb, Rd, QFn, QFa, QRn, QRa, QRb, QRd, x2, x3 => fL_areAlike_B41 N Tn Ta QTn QTa (fL_areAlike_H41 N Tn Ta QTn QTa n) Fn Fa Rn Ra Rb Rd QFn QFa QRn QRa QRb QRd x2 x3
def fL_areAlike_J38 (N : Nat) (Tn : Int32) (Ta : (Nat → Int32)) (QTn : Int32) (QTa : (Nat → Int32)) (Fn : Int32) (Fa : (Nat → Int32)) (Rn : Int32) (Ra : (Nat → Int32)) (Rb : (Nat → Int32)) (Rd : (Nat → Int32)) (QFn : Int32) (QFa : (Nat → Int32)) (QRn : Int32) (QRa : (Nat → Int32)) (QRb : (Nat → Int32)) (QRd : (Nat → Int32)) (y0 : Int32) : Option (Int32 × Int32 × (Nat → Int32) × Int32 × (Nat → Int32) × (Nat → Int32) × (Nat → Int32) × Int32 × (Nat → Int32) × Int32 × (Nat → Int32) × (Nat → Int32) × (Nat → Int32)) :=
  fL_areAlike_H41 N Tn Ta QTn QTa N Fn Fa Rn Ra Rb Rd QFn QFa QRn QRa QRb QRd y0 (0 : Int32)
def fL_areAlike_J37 (N : Nat) (Tn : Int32) (Ta : (Nat → Int32)) (QTn : Int32) (QTa : (Nat → Int32)) (Fn : Int32) (Fa : (Nat → Int32)) (Rn : Int32) (Ra : (Nat → Int32)) (Rb : (Nat → Int32)) (Rd : (Nat → Int32)) (QFn : Int32) (QFa : (Nat → Int32)) (QRn : Int32) (QRa : (Nat → Int32)) (QRb : (Nat → Int32)) (QRd : (Nat → Int32)) : Option (Int32 × Int32 × (Nat → Int32) × Int32 × (Nat → Int32) × (Nat → Int32) × (Nat → Int32) × Int32 × (Nat → Int32) × Int32 × (Nat → Int32) × (Nat → Int32) × (Nat → Int32)) :=
  fL_areAlike_J38 N Tn Ta QTn QTa Fn Fa Rn Ra Rb Rd QFn QFa QRn QRa QRb QRd (0 : Int32)
def fL_areAlike (N : Nat) (Tn : Int32) (Ta : (Nat → Int32)) (Fn : Int32) (Fa : (Nat → Int32)) (Rn : Int32) (Ra : (Nat → Int32)) (Rb : (Nat → Int32)) (Rd : (Nat → Int32)) (QTn : Int32) (QTa : (Nat → Int32)) (QFn : Int32) (QFa : (Nat → Int32)) (QRn : Int32) (QRa : (Nat → Int32)) (QRb : (Nat → Int32)) (QRd : (Nat → Int32)) : Option (Int32 × Int32 × (Nat → Int32) × Int32 × (Nat → Int32) × (Nat → Int32) × (Nat → Int32) × Int32 × (Nat → Int32) × Int32 × (Nat → Int32) × (Nat → Int32) × (Nat → Int32)) :=
  bn (fX8_length N Tn) (fun v1 =>
    bn (fX8_length N QTn) (fun v5 =>
      if v1 = v5 then
        bn (fX8_factors N Tn Ta Fn Fa) (fun v12 =>
          bn (fX8_factors N QTn QTa QFn QFa) (fun v16 =>
            if v12.1 = v16.1 then
              bn (fX8_runs N Tn Ta Rn Ra Rb Rd) (fun v23 =>
                bn (fX8_runs N QTn QTa QRn QRa QRb QRd) (fun v27 =>
                  if v23.1 = v27.1 then
                    fL_areAlike_J38 N Tn Ta QTn QTa v12.2.1 v12.2.2 v23.2.1 v23.2.2.1 v23.2.2.2.1 v23.2.2.2.2 v16.2.1 v16.2.2 v27.2.1 v27.2.2.1 v27.2.2.2.1 v27.2.2.2.2 (1 : Int32)
                  else
                    fL_areAlike_J37 N Tn Ta QTn QTa v12.2.1 v12.2.2 v23.2.1 v23.2.2.1 v23.2.2.2.1 v23.2.2.2.2 v16.2.1 v16.2.2 v27.2.1 v27.2.2.1 v27.2.2.2.1 v27.2.2.2.2))
            else
              fL_areAlike_J37 N Tn Ta QTn QTa v12.2.1 v12.2.2 Rn Ra Rb Rd v16.2.1 v16.2.2 QRn QRa QRb QRd))
      else
        fL_areAlike_J37 N Tn Ta QTn QTa Fn Fa Rn Ra Rb Rd QFn QFa QRn QRa QRb QRd))
def fL_areFactorsSo_J82 (N : Nat) (Tn : Int32) (Ta : (Nat → Int32)) (Fn : Int32) (Fa : (Nat → Int32)) : Option (Int32 × Int32 × (Nat → Int32)) :=
  gd (isB (0 : Int32)) (some ((0 : Int32), Fn, Fa))
def fL_areFactorsSo_J130 (N : Nat) (Tn : Int32) (Ta : (Nat → Int32)) (Fn : Int32) (Fa : (Nat → Int32)) (y0 : Int32) : Option (Int32 × Int32 × (Nat → Int32)) :=
  gd (isB y0) (some (y0, Fn, Fa))
def fL_areFactorsSo_J117 (N : Nat) (Tn : Int32) (Ta : (Nat → Int32)) (Fn : Int32) (Fa : (Nat → Int32)) (x1 : Int32) : Option (Int32 × Int32 × (Nat → Int32)) :=
  bn (fX8_length N Tn) (fun v119 =>
    if x1 = v119 then
      fL_areFactorsSo_J130 N Tn Ta Fn Fa (1 : Int32)
    else
      fL_areFactorsSo_J130 N Tn Ta Fn Fa (0 : Int32))
def fL_areFactorsSo_J102 (N : Nat) (Tn : Int32) (Ta : (Nat → Int32)) (Fn : Int32) (Fa : (Nat → Int32)) : Option (Int32 × Int32 × (Nat → Int32)) :=
  gd (isB (0 : Int32)) (some ((0 : Int32), Fn, Fa))
def fL_areFactorsSo_J104 (N : Nat) (Tn : Int32) (Ta : (Nat → Int32)) (k6 : Int32 → (Nat → Int32) → Int32 → Int32 → Int32 → Option (Int32 × Int32 × (Nat → Int32))) (Fn : Int32) (Fa : (Nat → Int32)) (x1 : Int32) (x3 : Int32) (x4 : Int32) : Option (Int32 × Int32 × (Nat → Int32)) :=
  k6 Fn Fa (x1 + x4) x1 (x3 + 1)
def fL_areFactorsSo_B6 (N : Nat) (Tn : Int32) (Ta : (Nat → Int32)) (k6 : Int32 → (Nat → Int32) → Int32 → Int32 → Int32 → Option (Int32 × Int32 × (Nat → Int32))) (Fn : Int32) (Fa : (Nat → Int32)) (x1 : Int32) (x2 : Int32) (x3 : Int32) : Option (Int32 × Int32 × (Nat → Int32)) :=
  bn (fX8_factors N Tn Ta Fn Fa) (fun v8 =>
    if v8.1 ≤ x3 then
      fL_areFactorsSo_J117 N Tn Ta v8.2.1 v8.2.2 x1
    else
      bx (fX8_factorLength N Tn Ta v8.2.1 v8.2.2 x3) (fun z16 => none) (fun v16 =>
        bx (fX8_factorStart N Tn Ta v16.2.1 v16.2.2 x3) (fun z23 => none) (fun v23 =>
          if v23.1 = x1 then
            if v16.1 < (1 : Int32) then
              fL_areFactorsSo_J82 N Tn Ta v23.2.1 v23.2.2
            else
              bx (fX8_isLyndon N Tn Ta x1 (x1 + v16.1)) (fun z42 => none) (fun v42 =>
                if v42 = 0 then
                  fL_areFactorsSo_J82 N Tn Ta v23.2.1 v23.2.2
                else
                  bx (fX8_longestLyndon N Tn Ta x1 (0 : Int32)) (fun z51 => none) (fun v51 =>
                    if v51 = v16.1 then
                      bx (fX8_factorOver N Tn Ta v23.2.1 v23.2.2 x1) (fun z61 => none) (fun v61 =>
                        if v61.1 = x3 then
                          bx (fX8_factorOver N Tn Ta v61.2.1 v61.2.2 ((x1 + v16.1) - (1 : Int32))) (fun z75 => none) (fun v75 =>
                            if v75.1 = x3 then
                              if x3 ≤ 0 then
                                fL_areFactorsSo_J104 N Tn Ta k6 v75.2.1 v75.2.2 x1 x3 v16.1
                              else
                                bx (fX8_compare N Tn Ta x2 x1 x1 (x1 + v16.1)) (fun z96 => none) (fun v96 =>
                                  if 0 ≤ v96 then
                                    fL_areFactorsSo_J104 N Tn Ta k6 v75.2.1 v75.2.2 x1 x3 v16.1
                                  else
                                    fL_areFactorsSo_J102 N Tn Ta v75.2.1 v75.2.2)
                            else
                              fL_areFactorsSo_J82 N Tn Ta v75.2.1 v75.2.2)
                        else
                          fL_areFactorsSo_J82 N Tn Ta v61.2.1 v61.2.2)
                    else
                      fL_areFactorsSo_J82 N Tn Ta v23.2.1 v23.2.2))
          else
            fL_areFactorsSo_J82 N Tn Ta v23.2.1 v23.2.2)))
def fL_areFactorsSo_H6 (N : Nat) (Tn : Int32) (Ta : (Nat → Int32)) : Nat → Int32 → (Nat → Int32) → Int32 → Int32 → Int32 → Option (Int32 × Int32 × (Nat → Int32))
  | 0, _, _, _, _, _ => none
  | n + 1, Fn, Fa, x1, x2, x3 => fL_areFactorsSo_B6 N Tn Ta (fL_areFactorsSo_H6 N Tn Ta n) Fn Fa x1 x2 x3
def fL_areFactorsSo (N : Nat) (Tn : Int32) (Ta : (Nat → Int32)) (Fn : Int32) (Fa : (Nat → Int32)) : Option (Int32 × Int32 × (Nat → Int32)) :=
  fL_areFactorsSo_H6 N Tn Ta N Fn Fa (0 : Int32) (0 : Int32) (0 : Int32)
def fL_isPartSo_J337 (N : Nat) (Tn : Int32) (Ta : (Nat → Int32)) (Ba : (Nat → Int32)) (x8 : Int32) : Option (Int32 × (Nat → Int32)) :=
  gd (isB x8) (some (x8, Ba))
def fL_isPartSo_J335 (N : Nat) (Tn : Int32) (Ta : (Nat → Int32)) (Ba : (Nat → Int32)) (y0 : Int32) : Option (Int32 × (Nat → Int32)) :=
  fL_isPartSo_J337 N Tn Ta Ba y0
def fL_isPartSo_J334 (N : Nat) (Tn : Int32) (Ta : (Nat → Int32)) (Ba : (Nat → Int32)) : Option (Int32 × (Nat → Int32)) :=
  fL_isPartSo_J335 N Tn Ta Ba (0 : Int32)
def fL_isPartSo_J259 (N : Nat) (Tn : Int32) (Ta : (Nat → Int32)) (Ba : (Nat → Int32)) (x1 : Int32) (x2 : Int32) (x3 : Int32) (y0 : Int32) : Option (Int32 × (Nat → Int32)) :=
  if y0 = 0 then
    fL_isPartSo_J337 N Tn Ta Ba y0
  else
    bx (fX8_isLyndon N Tn Ta x1 x2) (fun z269 => none) (fun v269 =>
      if v269 = 0 then
        fL_isPartSo_J337 N Tn Ta Ba y0
      else
        if x3 ≤ (1 : Int32) then
          fL_isPartSo_J337 N Tn Ta Ba y0
        else
          bx (fX8_standardFactor N Tn Ta x1 x2) (fun z283 => none) (fun v283 =>
            bx (fX8_isLyndon N Tn Ta x1 v283) (fun z292 => none) (fun v292 =>
              if v292 = 0 then
                fL_isPartSo_J334 N Tn Ta Ba
              else
                bx (fX8_isLyndon N Tn Ta v283 x2) (fun z302 => none) (fun v302 =>
                  if v302 = 0 then
                    fL_isPartSo_J334 N Tn Ta Ba
                  else
                    bx (fX8_compare N Tn Ta x1 v283 v283 x2) (fun z315 => none) (fun v315 =>
                      if 0 ≤ v315 then
                        fL_isPartSo_J334 N Tn Ta Ba
                      else
                        bx (fX8_border N Tn Ta Ba x1 x2) (fun z324 => none) (fun v324 =>
                          if v324.1 = 0 then
                            fL_isPartSo_J335 N Tn Ta v324.2 (1 : Int32)
                          else
                            fL_isPartSo_J334 N Tn Ta v324.2))))))
def fL_isPartSo_J258 (N : Nat) (Tn : Int32) (Ta : (Nat → Int32)) (Ba : (Nat → Int32)) (x1 : Int32) (x2 : Int32) (x3 : Int32) : Option (Int32 × (Nat → Int32)) :=
  fL_isPartSo_J259 N Tn Ta Ba x1 x2 x3 (0 : Int32)
def fL_isPartSo_J238 (N : Nat) (Tn : Int32) (Ta : (Nat → Int32)) (Ba : (Nat → Int32)) (x1 : Int32) (x2 : Int32) (x3 : Int32) (x4 : Int32) (y0 : Int32) (y1 : Int32) : Option (Int32 × (Nat → Int32)) :=
  if y0 = y1 then
    bx (fX8_periods N Tn Ta Ba x1 x2) (fun z244 => none) (fun v244 =>
      gd (nz x4) (
        if v244.1 < (x3 / x4) then
          fL_isPartSo_J258 N Tn Ta v244.2 x1 x2 x3
        else
          fL_isPartSo_J259 N Tn Ta v244.2 x1 x2 x3 (1 : Int32)))
  else
    fL_isPartSo_J258 N Tn Ta Ba x1 x2 x3
def fL_isPartSo_J237 (N : Nat) (Tn : Int32) (Ta : (Nat → Int32)) (Ba : (Nat → Int32)) (x1 : Int32) (x2 : Int32) (x3 : Int32) (x4 : Int32) (y0 : Int32) : Option (Int32 × (Nat → Int32)) :=
  fL_isPartSo_J238 N Tn Ta Ba x1 x2 x3 x4 y0 (0 : Int32)
def fL_isPartSo_J213 (N : Nat) (Tn : Int32) (Ta : (Nat → Int32)) (Ba : (Nat → Int32)) (x1 : Int32) (x2 : Int32) (x3 : Int32) (x4 : Int32) (x5 : Int32) (x6 : Int32) (y0 : Int32) (y1 : Int32) : Option (Int32 × (Nat → Int32)) :=
  if y0 = y1 then
    bx (fX8_isLyndon N Tn Ta x1 x2) (fun z219 => none) (fun v219 =>
      if x6 = 0 then
        if x5 = x3 then
          fL_isPartSo_J238 N Tn Ta Ba x1 x2 x3 x4 v219 (1 : Int32)
        else
          fL_isPartSo_J237 N Tn Ta Ba x1 x2 x3 x4 v219
      else
        fL_isPartSo_J237 N Tn Ta Ba x1 x2 x3 x4 v219)
  else
    fL_isPartSo_J258 N Tn Ta Ba x1 x2 x3
def fL_isPartSo_J176 (N : Nat) (Tn : Int32) (Ta : (Nat → Int32)) (Ba : (Nat → Int32)) (x1 : Int32) (x2 : Int32) (x3 : Int32) (x4 : Int32) (x5 : Int32) (x6 : Int32) (x7 : Int32) (y0 : Int32) : Option (Int32 × (Nat → Int32)) :=
  if y0 = 0 then
    fL_isPartSo_J258 N Tn Ta Ba x1 x2 x3
  else
    if x5 ≤ x6 then
      fL_isPartSo_J258 N Tn Ta Ba x1 x2 x3
    else
      if x5 ≤ x7 then
        fL_isPartSo_J258 N Tn Ta Ba x1 x2 x3
      else
        bx (fX8_isNecklace N Tn Ta x1 x2) (fun z200 => none) (fun v200 =>
          if x6 = 0 then
            fL_isPartSo_J213 N Tn Ta Ba x1 x2 x3 x4 x5 x6 v200 (1 : Int32)
          else
            fL_isPartSo_J213 N Tn Ta Ba x1 x2 x3 x4 x5 x6 v200 (0 : Int32))
def fL_isPartSo_J175 (N : Nat) (Tn : Int32) (Ta : (Nat → Int32)) (Ba : (Nat → Int32)) (x1 : Int32) (x2 : Int32) (x3 : Int32) (x4 : Int32) (x5 : Int32) (x6 : Int32) (x7 : Int32) : Option (Int32 × (Nat → Int32)) :=
  fL_isPartSo_J176 N Tn Ta Ba x1 x2 x3 x4 x5 x6 x7 (0 : Int32)
def fL_isPartSo_J155 (N : Nat) (Tn : Int32) (Ta : (Nat → Int32)) (Ba : (Nat → Int32)) (x1 : Int32) (x2 : Int32) (x3 : Int32) (x4 : Int32) (x5 : Int32) (x6 : Int32) (x7 : Int32) : Option (Int32 × (Nat → Int32)) :=
  bx (fX8_exponent N Tn Ta Ba x1 x2) (fun z158 => none) (fun v158 =>
    gd (nonan (FP.ddiv (FP.i2d x3) (FP.i2d x4))) (
      if (Op.cmpValue (FP.dcmp v158.1 (FP.ddiv (FP.i2d x3) (FP.i2d x4))) CmpOp.l) = 0 then
        fL_isPartSo_J176 N Tn Ta v158.2 x1 x2 x3 x4 x5 x6 x7 (1 : Int32)
      else
        fL_isPartSo_J175 N Tn Ta v158.2 x1 x2 x3 x4 x5 x6 x7))
def fL_isPartSo_J105 (N : Nat) (Tn : Int32) (Ta : (Nat → Int32)) (Ba : (Nat → Int32)) (x1 : Int32) (x2 : Int32) (x3 : Int32) (x4 : Int32) (x5 : Int32) (x6 : Int32) (x7 : Int32) (y0 : Int32) : Option (Int32 × (Nat → Int32)) :=
  if y0 = 0 then
    fL_isPartSo_J175 N Tn Ta Ba x1 x2 x3 x4 x5 x6 x7
  else
    gd (nz x5) (
      if (x3 - x3 / x5 * x5) = 0 then
        bx (fX8_isPeriod N Tn Ta x1 x2 x5) (fun z124 => none) (fun v124 =>
          if v124 = 0 then
            fL_isPartSo_J175 N Tn Ta Ba x1 x2 x3 x4 x5 x6 x7
          else
            bx (fX8_rotations N Tn Ta Ba x1 x2) (fun z133 => none) (fun v133 =>
              if v133.1 = x5 then
                gd (nz x4) (
                  if (x3 - x3 / x4 * x4) = 0 then
                    if x5 = x4 then
                      fL_isPartSo_J155 N Tn Ta v133.2 x1 x2 x3 x4 x5 x6 x7
                    else
                      fL_isPartSo_J175 N Tn Ta v133.2 x1 x2 x3 x4 x5 x6 x7
                  else
                    fL_isPartSo_J155 N Tn Ta v133.2 x1 x2 x3 x4 x5 x6 x7)
              else
                fL_isPartSo_J175 N Tn Ta v133.2 x1 x2 x3 x4 x5 x6 x7))
      else
        fL_isPartSo_J175 N Tn Ta Ba x1 x2 x3 x4 x5 x6 x7)
def fL_isPartSo_J100 (N : Nat) (Tn : Int32) (Ta : (Nat → Int32)) (Ba : (Nat → Int32)) (x1 : Int32) (x2 : Int32) (x3 : Int32) (x4 : Int32) (x5 : Int32) (x6 : Int32) (x7 : Int32) : Option (Int32 × (Nat → Int32)) :=
  fL_isPartSo_J105 N Tn Ta Ba x1 x2 x3 x4 x5 x6 x7 (1 : Int32)
def fL_isPartSo_J104 (N : Nat) (Tn : Int32) (Ta : (Nat → Int32)) (Ba : (Nat → Int32)) (x1 : Int32) (x2 : Int32) (x3 : Int32) (x4 : Int32) (x5 : Int32) (x6 : Int32) (x7 : Int32) : Option (Int32 × (Nat → Int32)) :=
  fL_isPartSo_J105 N Tn Ta Ba x1 x2 x3 x4 x5 x6 x7 (0 : Int32)
def fL_isPartSo (N : Nat) (Tn : Int32) (Ta : (Nat → Int32)) (Ba : (Nat → Int32)) (p1 : Int32) (p2 : Int32) : Option (Int32 × (Nat → Int32)) :=
  bx (fX8_period N Tn Ta Ba p1 p2) (fun z7 => none) (fun v7 =>
    bx (fX8_rootLength N Tn Ta v7.2 p1 p2) (fun z15 => none) (fun v15 =>
      bx (fX8_leastRotation N Tn Ta p1 p2) (fun z23 => none) (fun v23 =>
        bx (fX8_greatestRotation N Tn Ta p1 p2) (fun z31 => none) (fun v31 =>
          bx (fX8_border N Tn Ta v15.2 p1 p2) (fun z41 => none) (fun v41 =>
            if (v7.1 + v41.1) = (p2 - p1) then
              bx (fX8_periodByTrying N Tn Ta p1 p2) (fun z52 => none) (fun v52 =>
                if v52 = v7.1 then
                  bx (fX8_isPeriod N Tn Ta p1 p2 v7.1) (fun z65 => none) (fun v65 =>
                    if v65 = 0 then
                      fL_isPartSo_J104 N Tn Ta v41.2 p1 p2 (p2 - p1) v7.1 v15.1 v23 v31
                    else
                      bx (fX8_isPeriod N Tn Ta p1 p2 (p2 - p1)) (fun z75 => none) (fun v75 =>
                        if v75 = 0 then
                          fL_isPartSo_J104 N Tn Ta v41.2 p1 p2 (p2 - p1) v7.1 v15.1 v23 v31
                        else
                          if v7.1 = (1 : Int32) then
                            fL_isPartSo_J100 N Tn Ta v41.2 p1 p2 (p2 - p1) v7.1 v15.1 v23 v31
                          else
                            bx (fX8_isPeriod N Tn Ta p1 p2 (v7.1 - (1 : Int32))) (fun z94 => none) (fun v94 =>
                              if v94 = 0 then
                                fL_isPartSo_J100 N Tn Ta v41.2 p1 p2 (p2 - p1) v7.1 v15.1 v23 v31
                              else
                                fL_isPartSo_J104 N Tn Ta v41.2 p1 p2 (p2 - p1) v7.1 v15.1 v23 v31)))
                else
                  fL_isPartSo_J104 N Tn Ta v41.2 p1 p2 (p2 - p1) v7.1 v15.1 v23 v31)
            else
              fL_isPartSo_J104 N Tn Ta v41.2 p1 p2 (p2 - p1) v7.1 v15.1 v23 v31)))))
def fL_areSuffixesSo_J100 (N : Nat) (Tn : Int32) (Ta : (Nat → Int32)) (Fn : Int32) (Fa : (Nat → Int32)) (Ua : (Nat → Int32)) (y0 : Int32) : Option (Int32 × Int32 × (Nat → Int32) × (Nat → Int32)) :=
  gd (isB y0) (some (y0, Fn, Fa, Ua))
def fL_areSuffixesSo_J99 (N : Nat) (Tn : Int32) (Ta : (Nat → Int32)) (Fn : Int32) (Fa : (Nat → Int32)) (Ua : (Nat → Int32)) : Option (Int32 × Int32 × (Nat → Int32) × (Nat → Int32)) :=
  fL_areSuffixesSo_J100 N Tn Ta Fn Fa Ua (0 : Int32)
def fL_areSuffixesSo_J95 (N : Nat) (Tn : Int32) (Ta : (Nat → Int32)) (Fn : Int32) (Fa : (Nat → Int32)) (Ua : (Nat → Int32)) : Option (Int32 × Int32 × (Nat → Int32) × (Nat → Int32)) :=
  fL_areSuffixesSo_J100 N Tn Ta Fn Fa Ua (1 : Int32)
def fL_areSuffixesSo_J69 (N : Nat) (Tn : Int32) (Ta : (Nat → Int32)) (Fn : Int32) (Fa : (Nat → Int32)) (Ua : (Nat → Int32)) (x1 : Int32) (x2 : Int32) : Option (Int32 × Int32 × (Nat → Int32) × (Nat → Int32)) :=
  if x2 = 0 then
    fL_areSuffixesSo_J99 N Tn Ta Fn Fa Ua
  else
    if x1 = 0 then
      fL_areSuffixesSo_J95 N Tn Ta Fn Fa Ua
    else
      bx (fX8_suffixAt N Tn Ta Ua (0 : Int32)) (fun z79 => none) (fun v79 =>
        bn (fX8_factors N Tn Ta Fn Fa) (fun v84 =>
          bx (fX8_factorStart N Tn Ta v84.2.1 v84.2.2 (v84.1 - (1 : Int32))) (fun z89 => none) (fun v89 =>
            if v79.1 = v89.1 then
              fL_areSuffixesSo_J95 N Tn Ta v89.2.1 v89.2.2 v79.2
            else
              fL_areSuffixesSo_J99 N Tn Ta v89.2.1 v89.2.2 v79.2)))
def fL_areSuffixesSo_J62 (N : Nat) (Tn : Int32) (Ta : (Nat → Int32)) (k9 : Int32 → (Nat → Int32) → (Nat → Int32) → Int32 → Int32 → Int32 → Option (Int32 × Int32 × (Nat → Int32) × (Nat → Int32))) (Fn : Int32) (Fa : (Nat → Int32)) (Ua : (Nat → Int32)) (x1 : Int32) (x3 : Int32) (y0 : Int32) : Option (Int32 × Int32 × (Nat → Int32) × (Nat → Int32)) :=
  k9 Fn Fa Ua x1 y0 (x3 + 1)
def fL_areSuffixesSo_J57 (N : Nat) (Tn : Int32) (Ta : (Nat → Int32)) (k9 : Int32 → (Nat → Int32) → (Nat → Int32) → Int32 → Int32 → Int32 → Option (Int32 × Int32 × (Nat → Int32) × (Nat → Int32))) (Fn : Int32) (Fa : (Nat → Int32)) (Ua : (Nat → Int32)) (x1 : Int32) (x3 : Int32) : Option (Int32 × Int32 × (Nat → Int32) × (Nat → Int32)) :=
  fL_areSuffixesSo_J62 N Tn Ta k9 Fn Fa Ua x1 x3 (1 : Int32)
def fL_areSuffixesSo_J61 (N : Nat) (Tn : Int32) (Ta : (Nat → Int32)) (k9 : Int32 → (Nat → Int32) → (Nat → Int32) → Int32 → Int32 → Int32 → Option (Int32 × Int32 × (Nat → Int32) × (Nat → Int32))) (Fn : Int32) (Fa : (Nat → Int32)) (Ua : (Nat → Int32)) (x1 : Int32) (x3 : Int32) : Option (Int32 × Int32 × (Nat → Int32) × (Nat → Int32)) :=
  fL_areSuffixesSo_J62 N Tn Ta k9 Fn Fa Ua x1 x3 (0 : Int32)
def fL_areSuffixesSo_B9 (N : Nat) (Tn : Int32) (Ta : (Nat → Int32)) (k9 : Int32 → (Nat → Int32) → (Nat → Int32) → Int32 → Int32 → Int32 → Option (Int32 × Int32 × (Nat → Int32) × (Nat → Int32))) (Fn : Int32) (Fa : (Nat → Int32)) (Ua : (Nat → Int32)) (x1 : Int32) (x2 : Int32) (x3 : Int32) : Option (Int32 × Int32 × (Nat → Int32) × (Nat → Int32)) :=
  if x1 ≤ x3 then
    fL_areSuffixesSo_J69 N Tn Ta Fn Fa Ua x1 x2
  else
    if x2 = 0 then
      fL_areSuffixesSo_J69 N Tn Ta Fn Fa Ua x1 x2
    else
      bx (fX8_suffixAt N Tn Ta Ua x3) (fun z20 => none) (fun v20 =>
        bx (fX8_rankOf N Tn Ta v20.2 v20.1) (fun z28 => none) (fun v28 =>
          if v28.1 = x3 then
            if x3 = 0 then
              fL_areSuffixesSo_J57 N Tn Ta k9 Fn Fa v28.2 x1 x3
            else
              bx (fX8_suffixAt N Tn Ta v28.2 (x3 - (1 : Int32))) (fun z44 => none) (fun v44 =>
                bx (fX8_compare N Tn Ta v44.1 x1 v20.1 x1) (fun z51 => none) (fun v51 =>
                  if 0 ≤ v51 then
                    fL_areSuffixesSo_J61 N Tn Ta k9 Fn Fa v44.2 x1 x3
                  else
                    fL_areSuffixesSo_J57 N Tn Ta k9 Fn Fa v44.2 x1 x3))
          else
            fL_areSuffixesSo_J61 N Tn Ta k9 Fn Fa v28.2 x1 x3))
def fL_areSuffixesSo_H9 (N : Nat) (Tn : Int32) (Ta : (Nat → Int32)) : Nat → Int32 → (Nat → Int32) → (Nat → Int32) → Int32 → Int32 → Int32 → Option (Int32 × Int32 × (Nat → Int32) × (Nat → Int32))
  | 0, _, _, _, _, _, _ => none
  | n + 1, Fn, Fa, Ua, x1, x2, x3 => fL_areSuffixesSo_B9 N Tn Ta (fL_areSuffixesSo_H9 N Tn Ta n) Fn Fa Ua x1 x2 x3
def fL_areSuffixesSo (N : Nat) (Tn : Int32) (Ta : (Nat → Int32)) (Fn : Int32) (Fa : (Nat → Int32)) (Ua : (Nat → Int32)) : Option (Int32 × Int32 × (Nat → Int32) × (Nat → Int32)) :=
  bn (fX8_length N Tn) (fun v1 =>
    fL_areSuffixesSo_H9 N Tn Ta N Fn Fa Ua v1 (1 : Int32) (0 : Int32))
def fL_areRunsSo_J226 (N : Nat) (Tn : Int32) (Ta : (Nat → Int32)) (Ba : (Nat → Int32)) (Rn : Int32) (Ra : (Nat → Int32)) (Rb : (Nat → Int32)) (Rd : (Nat → Int32)) (y0 : Int32) : Option (Int32 × (Nat → Int32) × Int32 × (Nat → Int32) × (Nat → Int32) × (Nat → Int32)) :=
  gd (isB y0) (some (y0, Ba, Rn, Ra, Rb, Rd))
def fL_areRunsSo_J225 (N : Nat) (Tn : Int32) (Ta : (Nat → Int32)) (Ba : (Nat → Int32)) (Rn : Int32) (Ra : (Nat → Int32)) (Rb : (Nat → Int32)) (Rd : (Nat → Int32)) : Option (Int32 × (Nat → Int32) × Int32 × (Nat → Int32) × (Nat → Int32) × (Nat → Int32)) :=
  fL_areRunsSo_J226 N Tn Ta Ba Rn Ra Rb Rd (0 : Int32)
def fL_areRunsSo_J218 (N : Nat) (Tn : Int32) (Ta : (Nat → Int32)) (Ba : (Nat → Int32)) (Rn : Int32) (Ra : (Nat → Int32)) (Rb : (Nat → Int32)) (Rd : (Nat → Int32)) (y0 : Int32) (y1 : Int32) : Option (Int32 × (Nat → Int32) × Int32 × (Nat → Int32) × (Nat → Int32) × (Nat → Int32)) :=
  if y0 = y1 then
    fL_areRunsSo_J226 N Tn Ta Ba Rn Ra Rb Rd (1 : Int32)
  else
    fL_areRunsSo_J225 N Tn Ta Ba Rn Ra Rb Rd
def fL_areRunsSo_J206 (N : Nat) (Tn : Int32) (Ta : (Nat → Int32)) (Ba : (Nat → Int32)) (Rn : Int32) (Ra : (Nat → Int32)) (Rb : (Nat → Int32)) (Rd : (Nat → Int32)) (y0 : Int32) : Option (Int32 × (Nat → Int32) × Int32 × (Nat → Int32) × (Nat → Int32) × (Nat → Int32)) :=
  bn (fX8_runs N Tn Ta Rn Ra Rb Rd) (fun v207 =>
    if v207.1 ≤ 0 then
      fL_areRunsSo_J218 N Tn Ta Ba v207.2.1 v207.2.2.1 v207.2.2.2.1 v207.2.2.2.2 y0 (0 : Int32)
    else
      fL_areRunsSo_J218 N Tn Ta Ba v207.2.1 v207.2.2.1 v207.2.2.2.1 v207.2.2.2.2 y0 (1 : Int32))
def fL_areRunsSo_J190 (N : Nat) (Tn : Int32) (Ta : (Nat → Int32)) (Ba : (Nat → Int32)) (Rn : Int32) (Ra : (Nat → Int32)) (Rb : (Nat → Int32)) (Rd : (Nat → Int32)) (x2 : Int32) : Option (Int32 × (Nat → Int32) × Int32 × (Nat → Int32) × (Nat → Int32) × (Nat → Int32)) :=
  if x2 = 0 then
    fL_areRunsSo_J225 N Tn Ta Ba Rn Ra Rb Rd
  else
    bn (fX8_squares N Tn Ta Rn Ra Rb Rd) (fun v195 =>
      if v195.1 ≤ 0 then
        fL_areRunsSo_J206 N Tn Ta Ba v195.2.1 v195.2.2.1 v195.2.2.2.1 v195.2.2.2.2 (0 : Int32)
      else
        fL_areRunsSo_J206 N Tn Ta Ba v195.2.1 v195.2.2.1 v195.2.2.2.1 v195.2.2.2.2 (1 : Int32))
def fL_areRunsSo_J183 (N : Nat) (Tn : Int32) (Ta : (Nat → Int32)) (k9 : (Nat → Int32) → Int32 → (Nat → Int32) → (Nat → Int32) → (Nat → Int32) → Int32 → Int32 → Int32 → Option (Int32 × (Nat → Int32) × Int32 × (Nat → Int32) × (Nat → Int32) × (Nat → Int32))) (Ba : (Nat → Int32)) (Rn : Int32) (Ra : (Nat → Int32)) (Rb : (Nat → Int32)) (Rd : (Nat → Int32)) (x1 : Int32) (x3 : Int32) (y0 : Int32) : Option (Int32 × (Nat → Int32) × Int32 × (Nat → Int32) × (Nat → Int32) × (Nat → Int32)) :=
  k9 Ba Rn Ra Rb Rd x1 y0 (x3 + 1)
def fL_areRunsSo_J178 (N : Nat) (Tn : Int32) (Ta : (Nat → Int32)) (k9 : (Nat → Int32) → Int32 → (Nat → Int32) → (Nat → Int32) → (Nat → Int32) → Int32 → Int32 → Int32 → Option (Int32 × (Nat → Int32) × Int32 × (Nat → Int32) × (Nat → Int32) × (Nat → Int32))) (Ba : (Nat → Int32)) (Rn : Int32) (Ra : (Nat → Int32)) (Rb : (Nat → Int32)) (Rd : (Nat → Int32)) (x1 : Int32) (x3 : Int32) : Option (Int32 × (Nat → Int32) × Int32 × (Nat → Int32) × (Nat → Int32) × (Nat → Int32)) :=
  fL_areRunsSo_J183 N Tn Ta k9 Ba Rn Ra Rb Rd x1 x3 (1 : Int32)
def fL_areRunsSo_J182 (N : Nat) (Tn : Int32) (Ta : (Nat → Int32)) (k9 : (Nat → Int32) → Int32 → (Nat → Int32) → (Nat → Int32) → (Nat → Int32) → Int32 → Int32 → Int32 → Option (Int32 × (Nat → Int32) × Int32 × (Nat → Int32) × (Nat → Int32) × (Nat → Int32))) (Ba : (Nat → Int32)) (Rn : Int32) (Ra : (Nat → Int32)) (Rb : (Nat → Int32)) (Rd : (Nat → Int32)) (x1 : Int32) (x3 : Int32) : Option (Int32 × (Nat → Int32) × Int32 × (Nat → Int32) × (Nat → Int32) × (Nat → Int32)) :=
  fL_areRunsSo_J183 N Tn Ta k9 Ba Rn Ra Rb Rd x1 x3 (0 : Int32)
def fL_areRunsSo_J133 (N : Nat) (Tn : Int32) (Ta : (Nat → Int32)) (k9 : (Nat → Int32) → Int32 → (Nat → Int32) → (Nat → Int32) → (Nat → Int32) → Int32 → Int32 → Int32 → Option (Int32 × (Nat → Int32) × Int32 × (Nat → Int32) × (Nat → Int32) × (Nat → Int32))) (Ba : (Nat → Int32)) (Rn : Int32) (Ra : (Nat → Int32)) (Rb : (Nat → Int32)) (Rd : (Nat → Int32)) (x1 : Int32) (x3 : Int32) (x4 : Int32) (x6 : Int32) (y0 : Int32) : Option (Int32 × (Nat → Int32) × Int32 × (Nat → Int32) × (Nat → Int32) × (Nat → Int32)) :=
  if y0 = 0 then
    fL_areRunsSo_J182 N Tn Ta k9 Ba Rn Ra Rb Rd x1 x3
  else
    if x3 = 0 then
      fL_areRunsSo_J178 N Tn Ta k9 Ba Rn Ra Rb Rd x1 x3
    else
      bx (fX8_runStart N Tn Ta Rn Ra Rb Rd (x3 - (1 : Int32))) (fun z146 => none) (fun v146 =>
        if v146.1 < x4 then
          fL_areRunsSo_J178 N Tn Ta k9 Ba v146.2.1 v146.2.2.1 v146.2.2.2.1 v146.2.2.2.2 x1 x3
        else
          bx (fX8_runStart N Tn Ta v146.2.1 v146.2.2.1 v146.2.2.2.1 v146.2.2.2.2 (x3 - (1 : Int32))) (fun z158 => none) (fun v158 =>
            if v158.1 = x4 then
              bx (fX8_runPeriod N Tn Ta v158.2.1 v158.2.2.1 v158.2.2.2.1 v158.2.2.2.2 (x3 - (1 : Int32))) (fun z170 => none) (fun v170 =>
                if x6 ≤ v170.1 then
                  fL_areRunsSo_J182 N Tn Ta k9 Ba v170.2.1 v170.2.2.1 v170.2.2.2.1 v170.2.2.2.2 x1 x3
                else
                  fL_areRunsSo_J178 N Tn Ta k9 Ba v170.2.1 v170.2.2.1 v170.2.2.2.1 v170.2.2.2.2 x1 x3)
            else
              fL_areRunsSo_J182 N Tn Ta k9 Ba v158.2.1 v158.2.2.1 v158.2.2.2.1 v158.2.2.2.2 x1 x3))
def fL_areRunsSo_J132 (N : Nat) (Tn : Int32) (Ta : (Nat → Int32)) (k9 : (Nat → Int32) → Int32 → (Nat → Int32) → (Nat → Int32) → (Nat → Int32) → Int32 → Int32 → Int32 → Option (Int32 × (Nat → Int32) × Int32 × (Nat → Int32) × (Nat → Int32) × (Nat → Int32))) (Ba : (Nat → Int32)) (Rn : Int32) (Ra : (Nat → Int32)) (Rb : (Nat → Int32)) (Rd : (Nat → Int32)) (x1 : Int32) (x3 : Int32) (x4 : Int32) (x6 : Int32) : Option (Int32 × (Nat → Int32) × Int32 × (Nat → Int32) × (Nat → Int32) × (Nat → Int32)) :=
  fL_areRunsSo_J133 N Tn Ta k9 Ba Rn Ra Rb Rd x1 x3 x4 x6 (0 : Int32)
def fL_areRunsSo_J108 (N : Nat) (Tn : Int32) (Ta : (Nat → Int32)) (k9 : (Nat → Int32) → Int32 → (Nat → Int32) → (Nat → Int32) → (Nat → Int32) → Int32 → Int32 → Int32 → Option (Int32 × (Nat → Int32) × Int32 × (Nat → Int32) × (Nat → Int32) × (Nat → Int32))) (Ba : (Nat → Int32)) (Rn : Int32) (Ra : (Nat → Int32)) (Rb : (Nat → Int32)) (Rd : (Nat → Int32)) (x1 : Int32) (x3 : Int32) (x4 : Int32) (x5 : Int32) (x6 : Int32) : Option (Int32 × (Nat → Int32) × Int32 × (Nat → Int32) × (Nat → Int32) × (Nat → Int32)) :=
  bx (fX8_runsOver N Tn Ta Rn Ra Rb Rd x4) (fun z111 => none) (fun v111 =>
    if v111.1 ≤ 0 then
      fL_areRunsSo_J132 N Tn Ta k9 Ba v111.2.1 v111.2.2.1 v111.2.2.2.1 v111.2.2.2.2 x1 x3 x4 x6
    else
      bx (fX8_runsOver N Tn Ta v111.2.1 v111.2.2.1 v111.2.2.2.1 v111.2.2.2.2 (x5 - (1 : Int32))) (fun z122 => none) (fun v122 =>
        if v122.1 ≤ 0 then
          fL_areRunsSo_J132 N Tn Ta k9 Ba v122.2.1 v122.2.2.1 v122.2.2.2.1 v122.2.2.2.2 x1 x3 x4 x6
        else
          fL_areRunsSo_J133 N Tn Ta k9 Ba v122.2.1 v122.2.2.1 v122.2.2.2.1 v122.2.2.2.2 x1 x3 x4 x6 (1 : Int32)))
def fL_areRunsSo_J87 (N : Nat) (Tn : Int32) (Ta : (Nat → Int32)) (k9 : (Nat → Int32) → Int32 → (Nat → Int32) → (Nat → Int32) → (Nat → Int32) → Int32 → Int32 → Int32 → Option (Int32 × (Nat → Int32) × Int32 × (Nat → Int32) × (Nat → Int32) × (Nat → Int32))) (Ba : (Nat → Int32)) (Rn : Int32) (Ra : (Nat → Int32)) (Rb : (Nat → Int32)) (Rd : (Nat → Int32)) (x1 : Int32) (x3 : Int32) (x4 : Int32) (x5 : Int32) (x6 : Int32) : Option (Int32 × (Nat → Int32) × Int32 × (Nat → Int32) × (Nat → Int32) × (Nat → Int32)) :=
  if x5 = x1 then
    fL_areRunsSo_J108 N Tn Ta k9 Ba Rn Ra Rb Rd x1 x3 x4 x5 x6
  else
    bx (fX8_isPeriod N Tn Ta x4 (x5 + (1 : Int32)) x6) (fun z102 => none) (fun v102 =>
      if v102 = 0 then
        fL_areRunsSo_J108 N Tn Ta k9 Ba Rn Ra Rb Rd x1 x3 x4 x5 x6
      else
        fL_areRunsSo_J132 N Tn Ta k9 Ba Rn Ra Rb Rd x1 x3 x4 x6)
def fL_areRunsSo_B9 (N : Nat) (Tn : Int32) (Ta : (Nat → Int32)) (k9 : (Nat → Int32) → Int32 → (Nat → Int32) → (Nat → Int32) → (Nat → Int32) → Int32 → Int32 → Int32 → Option (Int32 × (Nat → Int32) × Int32 × (Nat → Int32) × (Nat → Int32) × (Nat → Int32))) (Ba : (Nat → Int32)) (Rn : Int32) (Ra : (Nat → Int32)) (Rb : (Nat → Int32)) (Rd : (Nat → Int32)) (x1 : Int32) (x2 : Int32) (x3 : Int32) : Option (Int32 × (Nat → Int32) × Int32 × (Nat → Int32) × (Nat → Int32) × (Nat → Int32)) :=
  bn (fX8_runs N Tn Ta Rn Ra Rb Rd) (fun v11 =>
    if v11.1 ≤ x3 then
      fL_areRunsSo_J190 N Tn Ta Ba v11.2.1 v11.2.2.1 v11.2.2.2.1 v11.2.2.2.2 x2
    else
      if x2 = 0 then
        fL_areRunsSo_J190 N Tn Ta Ba v11.2.1 v11.2.2.1 v11.2.2.2.1 v11.2.2.2.2 x2
      else
        bx (fX8_runStart N Tn Ta v11.2.1 v11.2.2.1 v11.2.2.2.1 v11.2.2.2.2 x3) (fun z23 => none) (fun v23 =>
          bx (fX8_runEnd N Tn Ta v23.2.1 v23.2.2.1 v23.2.2.2.1 v23.2.2.2.2 x3) (fun z30 => none) (fun v30 =>
            bx (fX8_runPeriod N Tn Ta v30.2.1 v30.2.2.1 v30.2.2.2.1 v30.2.2.2.2 x3) (fun z37 => none) (fun v37 =>
              bx (fX8_period N Tn Ta Ba v23.1 v30.1) (fun z47 => none) (fun v47 =>
                if v47.1 = v37.1 then
                  if (v30.1 - v23.1) < ((2 : Int32) * v37.1) then
                    fL_areRunsSo_J132 N Tn Ta k9 v47.2 v37.2.1 v37.2.2.1 v37.2.2.2.1 v37.2.2.2.2 x1 x3 v23.1 v37.1
                  else
                    if v23.1 = 0 then
                      fL_areRunsSo_J87 N Tn Ta k9 v47.2 v37.2.1 v37.2.2.1 v37.2.2.2.1 v37.2.2.2.2 x1 x3 v23.1 v30.1 v37.1
                    else
                      bx (fX8_isPeriod N Tn Ta (v23.1 - (1 : Int32)) v30.1 v37.1) (fun z81 => none) (fun v81 =>
                        if v81 = 0 then
                          fL_areRunsSo_J87 N Tn Ta k9 v47.2 v37.2.1 v37.2.2.1 v37.2.2.2.1 v37.2.2.2.2 x1 x3 v23.1 v30.1 v37.1
                        else
                          fL_areRunsSo_J132 N Tn Ta k9 v47.2 v37.2.1 v37.2.2.1 v37.2.2.2.1 v37.2.2.2.2 x1 x3 v23.1 v37.1)
                else
                  fL_areRunsSo_J132 N Tn Ta k9 v47.2 v37.2.1 v37.2.2.1 v37.2.2.2.1 v37.2.2.2.2 x1 x3 v23.1 v37.1)))))
def fL_areRunsSo_H9 (N : Nat) (Tn : Int32) (Ta : (Nat → Int32)) : Nat → (Nat → Int32) → Int32 → (Nat → Int32) → (Nat → Int32) → (Nat → Int32) → Int32 → Int32 → Int32 → Option (Int32 × (Nat → Int32) × Int32 × (Nat → Int32) × (Nat → Int32) × (Nat → Int32))
  | 0, _, _, _, _, _, _, _, _ => none
  | n + 1, Ba, Rn, Ra, Rb, Rd, x1, x2, x3 => fL_areRunsSo_B9 N Tn Ta (fL_areRunsSo_H9 N Tn Ta n) Ba Rn Ra Rb Rd x1 x2 x3
def fL_areRunsSo (N : Nat) (Tn : Int32) (Ta : (Nat → Int32)) (Ba : (Nat → Int32)) (Rn : Int32) (Ra : (Nat → Int32)) (Rb : (Nat → Int32)) (Rd : (Nat → Int32)) : Option (Int32 × (Nat → Int32) × Int32 × (Nat → Int32) × (Nat → Int32) × (Nat → Int32)) :=
  bn (fX8_length N Tn) (fun v1 =>
    fL_areRunsSo_H9 N Tn Ta N Ba Rn Ra Rb Rd v1 (1 : Int32) (0 : Int32))
