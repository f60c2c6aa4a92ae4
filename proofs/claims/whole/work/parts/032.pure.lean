def fJ6_compare_7cf53_J19 (N : Nat) (y0 : Int32) : Option Int32 :=
  some y0
def fJ6_compare_7cf53 (N : Nat) (p0 : Int32) (p1 : Int32) : Option Int32 :=
  if p1 ≤ p0 then
    if p0 = p1 then
      fJ6_compare_7cf53_J19 N (0 : Int32)
    else
      fJ6_compare_7cf53_J19 N (1 : Int32)
  else
    fJ6_compare_7cf53_J19 N (-1 : Int32)
def fX8_checkArgument_J10 (N : Nat) : Option (Nat ⊕ Unit) :=
  some (.inl 1)
def fX8_checkArgument (N : Nat) (p0 : Int32) (p1 : Int32) (p2 : Int32) : Option (Nat ⊕ Unit) :=
  if p0 < p1 then
    fX8_checkArgument_J10 N
  else
    if p0 ≤ p2 then
      some (.inr ())
    else
      fX8_checkArgument_J10 N
def fX2_count (N : Nat) (Tn : Int32) : Option Int32 :=
  some Tn
def fX8_checkRoom (N : Nat) (Tn : Int32) (p1 : Int32) : Option (Nat ⊕ Unit) :=
  bn (fX2_count N Tn) (fun v4 =>
    if (v4 + p1) ≤ (64 : Int32) then
      some (.inr ())
    else
      some (.inl 2))
def fX8_at_J17 (N : Nat) (gn : Nat) (gf : Nat → Int32) (y0 : Int32) : Option Int32 :=
  some y0
def fX8_at_J16 (N : Nat) (gn : Nat) (gf : Nat → Int32) : Option Int32 :=
  fX8_at_J17 N gn gf (0 : Int32)
def fX8_at (N : Nat) (gn : Nat) (gf : Nat → Int32) (p1 : Int32) : Option Int32 :=
  if p1 < 0 then
    fX8_at_J16 N gn gf
  else
    if (Int32.ofNat gn) ≤ p1 then
      fX8_at_J16 N gn gf
    else
      gd (inb p1 gn) (
        fX8_at_J17 N gn gf (gf (p1).toNatClampNeg))
def fX8_put_J14 (N : Nat) (gn : Nat) (gf : (Nat → Int32)) : Option (Nat → Int32) :=
  some gf
def fX8_put (N : Nat) (gn : Nat) (gf : Nat → Int32) (p1 : Int32) (p2 : Int32) : Option (Nat → Int32) :=
  if p1 < 0 then
    fX8_put_J14 N gn gf
  else
    if (Int32.ofNat gn) ≤ p1 then
      fX8_put_J14 N gn gf
    else
      gd (inb p1 gn) (
        fX8_put_J14 N gn (upd gf (p1).toNatClampNeg p2))
def fX2_open_J62 (N : Nat) (Tn : Int32) (Ta : (Nat → Int32)) : Option (Int32 × (Nat → Int32)) :=
  some (Tn, Ta)
def fX2_open_J43 (N : Nat) (Tn : Int32) (Ta : (Nat → Int32)) (x1 : Int32) (x2 : Int32) : Option (Int32 × (Nat → Int32)) :=
  bn (fX8_put N 64 Ta x1 x2) (fun v49 =>
    fX2_open_J62 N (Tn + (1 : Int32)) v49)
def fX2_open_B14 (N : Nat) (k14 : Int32 → (Nat → Int32) → Int32 → Int32 → Int32 → Option (Int32 × (Nat → Int32))) (Tn : Int32) (Ta : (Nat → Int32)) (x1 : Int32) (x2 : Int32) (x3 : Int32) : Option (Int32 × (Nat → Int32)) :=
  if x3 ≤ x1 then
    fX2_open_J43 N Tn Ta x1 x2
  else
    bn (fX8_at N 64 Ta (x3 - (1 : Int32))) (fun v31 =>
      bn (fX8_put N 64 Ta x3 v31) (fun v34 =>
        k14 Tn v34 x1 x2 (x3 + (-1 : Int32))))
def fX2_open_H14 (N : Nat) : Nat → Int32 → (Nat → Int32) → Int32 → Int32 → Int32 → Option (Int32 × (Nat → Int32))
  | 0, _, _, _, _, _ => none
  | n + 1, Tn, Ta, x1, x2, x3 => fX2_open_B14 N (fX2_open_H14 N n) Tn Ta x1 x2 x3
def fX2_open (N : Nat) (Tn : Int32) (Ta : (Nat → Int32)) (p1 : Int32) (p2 : Int32) : Option (Int32 × (Nat → Int32)) :=
  if (64 : Int32) ≤ Tn then
    fX2_open_J62 N Tn Ta
  else
    fX2_open_H14 N N Tn Ta p1 p2 Tn
def fX2_push (N : Nat) (Tn : Int32) (Ta : (Nat → Int32)) (p1 : Int32) : Option (Int32 × (Nat → Int32)) :=
  bn (fX2_open N Tn Ta Tn p1) (fun v6 =>
    some (v6.1, v6.2))
def fX8_append (N : Nat) (Tn : Int32) (Ta : (Nat → Int32)) (p1 : Int32) : Option ((Nat × Int32 × (Nat → Int32)) ⊕ (Int32 × Int32 × (Nat → Int32))) :=
  bx (fX8_checkArgument N p1 (0 : Int32) (25 : Int32)) (fun z4 => some (.inl (z4, Tn, Ta))) (fun v4 =>
    bx (fX8_checkRoom N Tn (1 : Int32)) (fun z9 => some (.inl (z9, Tn, Ta))) (fun v9 =>
      bn (fX2_push N Tn Ta p1) (fun v17 =>
        bn (fX2_count N v17.1) (fun v24 =>
          some (.inr (v24, v17.1, v17.2))))))
def fX8_checkIndex_J9 (N : Nat) : Option (Nat ⊕ Unit) :=
  some (.inl 0)
def fX8_checkIndex (N : Nat) (p0 : Int32) (p1 : Int32) : Option (Nat ⊕ Unit) :=
  if p0 < 0 then
    fX8_checkIndex_J9 N
  else
    if p0 < p1 then
      some (.inr ())
    else
      fX8_checkIndex_J9 N
def fX8_insert (N : Nat) (Tn : Int32) (Ta : (Nat → Int32)) (p1 : Int32) (p2 : Int32) : Option ((Nat × Int32 × (Nat → Int32)) ⊕ (Int32 × Int32 × (Nat → Int32))) :=
  bn (fX2_count N Tn) (fun v5 =>
    bx (fX8_checkIndex N p1 (v5 + (1 : Int32))) (fun z10 => some (.inl (z10, Tn, Ta))) (fun v10 =>
      bx (fX8_checkArgument N p2 (0 : Int32) (25 : Int32)) (fun z17 => some (.inl (z17, Tn, Ta))) (fun v17 =>
        bx (fX8_checkRoom N Tn (1 : Int32)) (fun z22 => some (.inl (z22, Tn, Ta))) (fun v22 =>
          bn (fX2_open N Tn Ta p1 p2) (fun v31 =>
            bn (fX2_count N v31.1) (fun v38 =>
              some (.inr (v38, v31.1, v31.2))))))))
def fX2_letter (N : Nat) (Tn : Int32) (Ta : (Nat → Int32)) (p1 : Int32) : Option Int32 :=
  bn (fX8_at N 64 Ta p1) (fun v5 =>
    some v5)
def fX2_write (N : Nat) (Tn : Int32) (Ta : (Nat → Int32)) (p1 : Int32) (p2 : Int32) : Option (Nat → Int32) :=
  bn (fX8_put N 64 Ta p1 p2) (fun v6 =>
    some v6)
def fX8_set (N : Nat) (Tn : Int32) (Ta : (Nat → Int32)) (p1 : Int32) (p2 : Int32) : Option ((Nat × (Nat → Int32)) ⊕ (Int32 × (Nat → Int32))) :=
  bn (fX2_count N Tn) (fun v5 =>
    bx (fX8_checkIndex N p1 v5) (fun z8 => some (.inl (z8, Ta))) (fun v8 =>
      bx (fX8_checkArgument N p2 (0 : Int32) (25 : Int32)) (fun z15 => some (.inl (z15, Ta))) (fun v15 =>
        bn (fX2_letter N Tn Ta p1) (fun v23 =>
          bn (fX2_write N Tn Ta p1 p2) (fun v33 =>
            some (.inr (v23, v33)))))))
def fX2_take_J45 (N : Nat) (Tn : Int32) (Ta : (Nat → Int32)) (x2 : Int32) : Option (Int32 × Int32 × (Nat → Int32)) :=
  some (x2, (Tn - (1 : Int32)), Ta)
def fX2_take_B13 (N : Nat) (k13 : Int32 → (Nat → Int32) → Int32 → Int32 → Option (Int32 × Int32 × (Nat → Int32))) (Tn : Int32) (Ta : (Nat → Int32)) (x2 : Int32) (x3 : Int32) : Option (Int32 × Int32 × (Nat → Int32)) :=
  if Tn ≤ x3 then
    fX2_take_J45 N Tn Ta x2
  else
    bn (fX8_at N 64 Ta x3) (fun v33 =>
      bn (fX8_put N 64 Ta (x3 - (1 : Int32)) v33) (fun v36 =>
        k13 Tn v36 x2 (x3 + 1)))
def fX2_take_H13 (N : Nat) : Nat → Int32 → (Nat → Int32) → Int32 → Int32 → Option (Int32 × Int32 × (Nat → Int32))
  | 0, _, _, _, _ => none
  | n + 1, Tn, Ta, x2, x3 => fX2_take_B13 N (fX2_take_H13 N n) Tn Ta x2 x3
def fX2_take (N : Nat) (Tn : Int32) (Ta : (Nat → Int32)) (p1 : Int32) : Option (Int32 × Int32 × (Nat → Int32)) :=
  bn (fX8_at N 64 Ta p1) (fun v5 =>
    fX2_take_H13 N N Tn Ta v5 (p1 + (1 : Int32)))
def fX8_remove (N : Nat) (Tn : Int32) (Ta : (Nat → Int32)) (p1 : Int32) : Option ((Nat × Int32 × (Nat → Int32)) ⊕ (Int32 × Int32 × (Nat → Int32))) :=
  bn (fX2_count N Tn) (fun v5 =>
    bx (fX8_checkIndex N p1 v5) (fun z8 => some (.inl (z8, Tn, Ta))) (fun v8 =>
      bn (fX2_take N Tn Ta p1) (fun v16 =>
        some (.inr (v16.1, v16.2.1, v16.2.2)))))
def fX2_empty (N : Nat) (Tn : Int32) : Option Int32 :=
  some (0 : Int32)
def fX8_clear (N : Nat) (Tn : Int32) : Option (Int32 × Int32) :=
  bn (fX2_count N Tn) (fun v4 =>
    bn (fX2_empty N Tn) (fun v12 =>
      some (v4, v12)))
def fX2_turn_J65 (N : Nat) (Tn : Int32) (Ta : (Nat → Int32)) : Option (Nat → Int32) :=
  some Ta
def fX2_turn_B2 (N : Nat) (Tn : Int32) (k2 : (Nat → Int32) → Int32 → Int32 → Int32 → Option (Nat → Int32)) (Ta : (Nat → Int32)) (x1 : Int32) (x2 : Int32) (x3 : Int32) : Option (Nat → Int32) :=
  gd (nz (2 : Int32)) (
    if ((x2 - x1) / (2 : Int32)) ≤ x3 then
      fX2_turn_J65 N Tn Ta
    else
      bn (fX8_at N 64 Ta (x1 + x3)) (fun v18 =>
        bn (fX8_at N 64 Ta ((x2 - (1 : Int32)) - x3)) (fun v39 =>
          bn (fX8_put N 64 Ta (x1 + x3) v39) (fun v42 =>
            bn (fX8_put N 64 v42 ((x2 - (1 : Int32)) - x3) v18) (fun v56 =>
              k2 v56 x1 x2 (x3 + 1))))))
def fX2_turn_H2 (N : Nat) (Tn : Int32) : Nat → (Nat → Int32) → Int32 → Int32 → Int32 → Option (Nat → Int32)
  | 0, _, _, _, _ => none
  | n + 1, Ta, x1, x2, x3 => fX2_turn_B2 N Tn (fX2_turn_H2 N Tn n) Ta x1 x2 x3
def fX2_turn (N : Nat) (Tn : Int32) (Ta : (Nat → Int32)) (p1 : Int32) (p2 : Int32) : Option (Nat → Int32) :=
  fX2_turn_H2 N Tn N Ta p1 p2 (0 : Int32)
def fX8_reverse (N : Nat) (Tn : Int32) (Ta : (Nat → Int32)) : Option (Int32 × (Nat → Int32)) :=
  bn (fX2_count N Tn) (fun v9 =>
    bn (fX2_turn N Tn Ta (0 : Int32) v9) (fun v12 =>
      bn (fX2_count N Tn) (fun v19 =>
        some (v19, v12))))
def fX8_rotate (N : Nat) (Tn : Int32) (Ta : (Nat → Int32)) (p1 : Int32) : Option ((Nat × (Nat → Int32)) ⊕ (Int32 × (Nat → Int32))) :=
  bx (fX8_checkArgument N p1 (0 : Int32) (63 : Int32)) (fun z4 => some (.inl (z4, Ta))) (fun v4 =>
    bn (fX2_count N Tn) (fun v11 =>
      if v11 = 0 then
        some (.inl (2, Ta))
      else
        gd (nz v11) (
          bn (fX2_turn N Tn Ta (0 : Int32) (p1 - p1 / v11 * v11)) (fun v39 =>
            bn (fX2_turn N Tn v39 (p1 - p1 / v11 * v11) v11) (fun v48 =>
              bn (fX2_turn N Tn v48 (0 : Int32) v11) (fun v57 =>
                bn (fX2_letter N Tn v57 (0 : Int32)) (fun v65 =>
                  some (.inr (v65, v57)))))))))
def fX8_checkPart_J20 (N : Nat) (Tn : Int32) : Option (Nat ⊕ Unit) :=
  some (.inl 0)
def fX8_checkPart (N : Nat) (Tn : Int32) (p1 : Int32) (p2 : Int32) : Option (Nat ⊕ Unit) :=
  if p1 < 0 then
    fX8_checkPart_J20 N Tn
  else
    if p2 ≤ p1 then
      fX8_checkPart_J20 N Tn
    else
      bn (fX2_count N Tn) (fun v14 =>
        if p2 ≤ v14 then
          some (.inr ())
        else
          fX8_checkPart_J20 N Tn)
def fX8_appendPart_J41 (N : Nat) (Tn : Int32) (Ta : (Nat → Int32)) : Option ((Nat × Int32 × (Nat → Int32)) ⊕ (Int32 × Int32 × (Nat → Int32))) :=
  bn (fX2_count N Tn) (fun v45 =>
    some (.inr (v45, Tn, Ta)))
def fX8_appendPart_B15 (N : Nat) (k15 : Int32 → (Nat → Int32) → Int32 → Int32 → Option ((Nat × Int32 × (Nat → Int32)) ⊕ (Int32 × Int32 × (Nat → Int32)))) (Tn : Int32) (Ta : (Nat → Int32)) (x2 : Int32) (x3 : Int32) : Option ((Nat × Int32 × (Nat → Int32)) ⊕ (Int32 × Int32 × (Nat → Int32))) :=
  if x2 ≤ x3 then
    fX8_appendPart_J41 N Tn Ta
  else
    bn (fX2_letter N Tn Ta x3) (fun v29 =>
      bn (fX2_push N Tn Ta v29) (fun v32 =>
        k15 v32.1 v32.2 x2 (x3 + 1)))
def fX8_appendPart_H15 (N : Nat) : Nat → Int32 → (Nat → Int32) → Int32 → Int32 → Option ((Nat × Int32 × (Nat → Int32)) ⊕ (Int32 × Int32 × (Nat → Int32)))
  | 0, _, _, _, _ => none
  | n + 1, Tn, Ta, x2, x3 => fX8_appendPart_B15 N (fX8_appendPart_H15 N n) Tn Ta x2 x3
def fX8_appendPart (N : Nat) (Tn : Int32) (Ta : (Nat → Int32)) (p1 : Int32) (p2 : Int32) : Option ((Nat × Int32 × (Nat → Int32)) ⊕ (Int32 × Int32 × (Nat → Int32))) :=
  bx (fX8_checkPart N Tn p1 p2) (fun z3 => some (.inl (z3, Tn, Ta))) (fun v3 =>
    bx (fX8_checkRoom N Tn (p2 - p1)) (fun z10 => some (.inl (z10, Tn, Ta))) (fun v10 =>
      fX8_appendPart_H15 N N Tn Ta p2 p1))
def fX4_power_J22 (N : Nat) (x2 : Int64) : Option Int64 :=
  some x2
def fX4_power_B5 (N : Nat) (k5 : Int32 → Int32 → Int64 → Int32 → Option Int64) (x0 : Int32) (x1 : Int32) (x2 : Int64) (x4 : Int32) : Option Int64 :=
  if x1 ≤ x4 then
    fX4_power_J22 N x2
  else
    k5 x0 x1 (x2 * (x0).toInt64) (x4 + 1)
def fX4_power_H5 (N : Nat) : Nat → Int32 → Int32 → Int64 → Int32 → Option Int64
  | 0, _, _, _, _ => none
  | n + 1, x0, x1, x2, x4 => fX4_power_B5 N (fX4_power_H5 N n) x0 x1 x2 x4
def fX4_power (N : Nat) (p0 : Int32) (p1 : Int32) : Option Int64 :=
  fX4_power_H5 N N p0 p1 (1 : Int64) (0 : Int32)
def fX3_begin (N : Nat) (Wg : Int32) (Wz : Int32) (Ww : Int32) (Wr : Int32) (p1 : Int32) (p2 : Int32) : Option (Int32 × Int32 × Int32 × Int32) :=
  some ((p1 - (1 : Int32)), p2, (0 : Int32), (1 : Int32))
def fX3_root (N : Nat) (Wg : Int32) (Wz : Int32) (Ww : Int32) (Wr : Int32) : Option Int32 :=
  some Wr
def fX3_letter (N : Nat) (Wg : Int32) (Wz : Int32) (Ww : Int32) (Wr : Int32) (p1 : Int32) : Option Int32 :=
  some ((Ww >>> (((3 : Int32) * ((Wz - (1 : Int32)) - p1)) &&& 31)) &&& (7 : Int32))
def fX8_pushFromWalk_J28 (N : Nat) (Wg : Int32) (Wz : Int32) (Ww : Int32) (Wr : Int32) (Tn : Int32) (Ta : (Nat → Int32)) : Option (Int32 × (Nat → Int32)) :=
  some (Tn, Ta)
def fX8_pushFromWalk_B2 (N : Nat) (Wg : Int32) (Wz : Int32) (Ww : Int32) (Wr : Int32) (k2 : Int32 → (Nat → Int32) → Int32 → Int32 → Option (Int32 × (Nat → Int32))) (Tn : Int32) (Ta : (Nat → Int32)) (x1 : Int32) (x2 : Int32) : Option (Int32 × (Nat → Int32)) :=
  if x1 ≤ x2 then
    fX8_pushFromWalk_J28 N Wg Wz Ww Wr Tn Ta
  else
    bn (fX3_letter N Wg Wz Ww Wr x2) (fun v16 =>
      bn (fX2_push N Tn Ta v16) (fun v19 =>
        k2 v19.1 v19.2 x1 (x2 + 1)))
def fX8_pushFromWalk_H2 (N : Nat) (Wg : Int32) (Wz : Int32) (Ww : Int32) (Wr : Int32) : Nat → Int32 → (Nat → Int32) → Int32 → Int32 → Option (Int32 × (Nat → Int32))
  | 0, _, _, _, _ => none
  | n + 1, Tn, Ta, x1, x2 => fX8_pushFromWalk_B2 N Wg Wz Ww Wr (fX8_pushFromWalk_H2 N Wg Wz Ww Wr n) Tn Ta x1 x2
def fX8_pushFromWalk (N : Nat) (Tn : Int32) (Ta : (Nat → Int32)) (Wg : Int32) (Wz : Int32) (Ww : Int32) (Wr : Int32) (p1 : Int32) : Option (Int32 × (Nat → Int32)) :=
  fX8_pushFromWalk_H2 N Wg Wz Ww Wr N Tn Ta p1 (0 : Int32)
def fX3_pack (N : Nat) (p0 : Int32) (p1 : Int32) : Option Int32 :=
  some ((p0 <<< ((3 : Int32) &&& 31)) ||| (p1 &&& (7 : Int32)))
def fX3_toNextWord_J93 (N : Nat) (Wg : Int32) (Wz : Int32) (Ww : Int32) (Wr : Int32) : Option (Int32 × Int32 × Int32) :=
  gd (isB (1 : Int32)) (some ((1 : Int32), Ww, Wr))
def fX3_toNextWord_B55 (N : Nat) (Wg : Int32) (Wz : Int32) (k55 : Int32 → Int32 → Int32 → Option (Int32 × Int32 × Int32)) (Ww : Int32) (Wr : Int32) (x3 : Int32) : Option (Int32 × Int32 × Int32) :=
  if Wz ≤ x3 then
    fX3_toNextWord_J93 N Wg Wz Ww Wr
  else
    bn (fX3_pack N Ww (Ww >>> (((3 : Int32) * (Wr - (1 : Int32))) &&& 31))) (fun v81 =>
      k55 v81 Wr (x3 + 1))
def fX3_toNextWord_H55 (N : Nat) (Wg : Int32) (Wz : Int32) : Nat → Int32 → Int32 → Int32 → Option (Int32 × Int32 × Int32)
  | 0, _, _, _ => none
  | n + 1, Ww, Wr, x3 => fX3_toNextWord_B55 N Wg Wz (fX3_toNextWord_H55 N Wg Wz n) Ww Wr x3
def fX3_toNextWord_J35 (N : Nat) (Wg : Int32) (Wz : Int32) (Ww : Int32) (Wr : Int32) (x1 : Int32) (x2 : Int32) : Option (Int32 × Int32 × Int32) :=
  if x2 = 0 then
    gd (isB (0 : Int32)) (some ((0 : Int32), Ww, Wr))
  else
    fX3_toNextWord_H55 N Wg Wz N (x1 + (1 : Int32)) x2 x2
def fX3_toNextWord_B10 (N : Nat) (Wg : Int32) (Wz : Int32) (k10 : Int32 → Int32 → Int32 → Int32 → Option (Int32 × Int32 × Int32)) (Ww : Int32) (Wr : Int32) (x1 : Int32) (x2 : Int32) : Option (Int32 × Int32 × Int32) :=
  if x2 ≤ 0 then
    fX3_toNextWord_J35 N Wg Wz Ww Wr x1 x2
  else
    if (x1 &&& (7 : Int32)) = Wg then
      k10 Ww Wr (x1 >>> ((3 : Int32) &&& 31)) (x2 + (-1 : Int32))
    else
      fX3_toNextWord_J35 N Wg Wz Ww Wr x1 x2
def fX3_toNextWord_H10 (N : Nat) (Wg : Int32) (Wz : Int32) : Nat → Int32 → Int32 → Int32 → Int32 → Option (Int32 × Int32 × Int32)
  | 0, _, _, _, _ => none
  | n + 1, Ww, Wr, x1, x2 => fX3_toNextWord_B10 N Wg Wz (fX3_toNextWord_H10 N Wg Wz n) Ww Wr x1 x2
def fX3_toNextWord (N : Nat) (Wg : Int32) (Wz : Int32) (Ww : Int32) (Wr : Int32) : Option (Int32 × Int32 × Int32) :=
  fX3_toNextWord_H10 N Wg Wz N Ww Wr Ww Wz
def fX3_toNextNecklace_J42 (N : Nat) (Wg : Int32) (Wz : Int32) (Ww : Int32) (Wr : Int32) : Option (Int32 × Int32 × Int32) :=
  gd (isB (0 : Int32)) (some ((0 : Int32), Ww, Wr))
def fX3_toNextNecklace_J34 (N : Nat) (Wg : Int32) (Wz : Int32) (Ww : Int32) (Wr : Int32) : Option (Int32 × Int32 × Int32) :=
  gd (isB (1 : Int32)) (some ((1 : Int32), Ww, Wr))
def fX3_toNextNecklace_J36 (N : Nat) (Wg : Int32) (Wz : Int32) (k2 : Int32 → Int32 → Int32 → Option (Int32 × Int32 × Int32)) (Ww : Int32) (Wr : Int32) (x1 : Int32) : Option (Int32 × Int32 × Int32) :=
  k2 Ww Wr (x1 + 1)
def fX3_toNextNecklace_B2 (N : Nat) (Wg : Int32) (Wz : Int32) (k2 : Int32 → Int32 → Int32 → Option (Int32 × Int32 × Int32)) (Ww : Int32) (Wr : Int32) (x1 : Int32) : Option (Int32 × Int32 × Int32) :=
  if (1048576 : Int32) ≤ x1 then
    fX3_toNextNecklace_J42 N Wg Wz Ww Wr
  else
    bn (fX3_toNextWord N Wg Wz Ww Wr) (fun v9 =>
      if v9.1 = 0 then
        fX3_toNextNecklace_J42 N Wg Wz v9.2.1 v9.2.2
      else
        if v9.2.2 ≤ 0 then
          fX3_toNextNecklace_J36 N Wg Wz k2 v9.2.1 v9.2.2 x1
        else
          gd (nz v9.2.2) (
            if (Wz - Wz / v9.2.2 * v9.2.2) = 0 then
              fX3_toNextNecklace_J34 N Wg Wz v9.2.1 v9.2.2
            else
              fX3_toNextNecklace_J36 N Wg Wz k2 v9.2.1 v9.2.2 x1))
def fX3_toNextNecklace_H2 (N : Nat) (Wg : Int32) (Wz : Int32) : Nat → Int32 → Int32 → Int32 → Option (Int32 × Int32 × Int32)
  | 0, _, _, _ => none
  | n + 1, Ww, Wr, x1 => fX3_toNextNecklace_B2 N Wg Wz (fX3_toNextNecklace_H2 N Wg Wz n) Ww Wr x1
def fX3_toNextNecklace (N : Nat) (Wg : Int32) (Wz : Int32) (Ww : Int32) (Wr : Int32) : Option (Int32 × Int32 × Int32) :=
  fX3_toNextNecklace_H2 N Wg Wz N Ww Wr (0 : Int32)
def fX8_loadDeBruijn_J93 (N : Nat) (Tn : Int32) (Ta : (Nat → Int32)) (Wg : Int32) (Wz : Int32) (Ww : Int32) (Wr : Int32) : Option ((Nat × Int32 × (Nat → Int32) × Int32 × Int32 × Int32 × Int32) ⊕ (Int32 × Int32 × (Nat → Int32) × Int32 × Int32 × Int32 × Int32)) :=
  bn (fX2_count N Tn) (fun v97 =>
    some (.inr (v97, Tn, Ta, Wg, Wz, Ww, Wr)))
def fX8_loadDeBruijn_B57 (N : Nat) (k57 : Int32 → (Nat → Int32) → Int32 → Int32 → Int32 → Int32 → Int32 → Int32 → Option ((Nat × Int32 × (Nat → Int32) × Int32 × Int32 × Int32 × Int32) ⊕ (Int32 × Int32 × (Nat → Int32) × Int32 × Int32 × Int32 × Int32))) (Tn : Int32) (Ta : (Nat → Int32)) (Wg : Int32) (Wz : Int32) (Ww : Int32) (Wr : Int32) (x3 : Int32) (x4 : Int32) : Option ((Nat × Int32 × (Nat → Int32) × Int32 × Int32 × Int32 × Int32) ⊕ (Int32 × Int32 × (Nat → Int32) × Int32 × Int32 × Int32 × Int32)) :=
  if x3 = 0 then
    fX8_loadDeBruijn_J93 N Tn Ta Wg Wz Ww Wr
  else
    if (64 : Int32) ≤ x4 then
      fX8_loadDeBruijn_J93 N Tn Ta Wg Wz Ww Wr
    else
      bn (fX3_root N Wg Wz Ww Wr) (fun v73 =>
        bn (fX8_pushFromWalk N Tn Ta Wg Wz Ww Wr v73) (fun v76 =>
          bn (fX3_toNextNecklace N Wg Wz Ww Wr) (fun v83 =>
            k57 v76.1 v76.2 Wg Wz v83.2.1 v83.2.2 v83.1 (x4 + 1))))
def fX8_loadDeBruijn_H57 (N : Nat) : Nat → Int32 → (Nat → Int32) → Int32 → Int32 → Int32 → Int32 → Int32 → Int32 → Option ((Nat × Int32 × (Nat → Int32) × Int32 × Int32 × Int32 × Int32) ⊕ (Int32 × Int32 × (Nat → Int32) × Int32 × Int32 × Int32 × Int32))
  | 0, _, _, _, _, _, _, _, _ => none
  | n + 1, Tn, Ta, Wg, Wz, Ww, Wr, x3, x4 => fX8_loadDeBruijn_B57 N (fX8_loadDeBruijn_H57 N n) Tn Ta Wg Wz Ww Wr x3 x4
def fX8_loadDeBruijn (N : Nat) (Tn : Int32) (Ta : (Nat → Int32)) (Wg : Int32) (Wz : Int32) (Ww : Int32) (Wr : Int32) (p1 : Int32) (p2 : Int32) : Option ((Nat × Int32 × (Nat → Int32) × Int32 × Int32 × Int32 × Int32) ⊕ (Int32 × Int32 × (Nat → Int32) × Int32 × Int32 × Int32 × Int32)) :=
  bx (fX8_checkArgument N p1 (1 : Int32) (8 : Int32)) (fun z4 => some (.inl (z4, Tn, Ta, Wg, Wz, Ww, Wr))) (fun v4 =>
    bx (fX8_checkArgument N p2 (1 : Int32) (6 : Int32)) (fun z11 => some (.inl (z11, Tn, Ta, Wg, Wz, Ww, Wr))) (fun v11 =>
      bn (fX4_power N p1 p2) (fun v16 =>
        if (lg_cmp v16 (64 : Int64)) ≤ 0 then
          bn (fX2_empty N Tn) (fun v40 =>
            bn (fX3_begin N Wg Wz Ww Wr p1 p2) (fun v49 =>
              fX8_loadDeBruijn_H57 N N v40 Ta v49.1 v49.2.1 v49.2.2.1 v49.2.2.2 (1 : Int32) (0 : Int32)))
        else
          some (.inl (1, Tn, Ta, Wg, Wz, Ww, Wr)))))
def fX4_moebius_J38 (N : Nat) (x2 : Int32) : Option Int32 :=
  some x2
def fX4_moebius_J30 (N : Nat) : Option Int32 :=
  some (0 : Int32)
def fX4_moebius_J32 (N : Nat) (k6 : Int32 → Int32 → Int32 → Int32 → Option Int32) (x0 : Int32) (x1 : Int32) (x2 : Int32) (x3 : Int32) : Option Int32 :=
  k6 x0 x1 x2 (x3 + 1)
def fX4_moebius_B6 (N : Nat) (k6 : Int32 → Int32 → Int32 → Int32 → Option Int32) (x0 : Int32) (x1 : Int32) (x2 : Int32) (x3 : Int32) : Option Int32 :=
  if x0 < x3 then
    fX4_moebius_J38 N x2
  else
    gd (nz x3) (
      if (x1 - x1 / x3 * x3) = 0 then
        gd (nz x3) (
          gd (nz x3) (
            if ((x1 / x3) - (x1 / x3) / x3 * x3) = 0 then
              fX4_moebius_J30 N
            else
              fX4_moebius_J32 N k6 x0 (x1 / x3) (-x2) x3))
      else
        fX4_moebius_J32 N k6 x0 x1 x2 x3)
def fX4_moebius_H6 (N : Nat) : Nat → Int32 → Int32 → Int32 → Int32 → Option Int32
  | 0, _, _, _, _ => none
  | n + 1, x0, x1, x2, x3 => fX4_moebius_B6 N (fX4_moebius_H6 N n) x0 x1 x2 x3
def fX4_moebius (N : Nat) (p0 : Int32) : Option Int32 :=
  fX4_moebius_H6 N N p0 p0 (1 : Int32) (2 : Int32)
def fX4_lyndonCount_J54 (N : Nat) (y0 : Int64) : Option Int64 :=
  some y0
def fX4_lyndonCount_J42 (N : Nat) (x1 : Int32) (x2 : Int64) : Option Int64 :=
  if x1 ≤ 0 then
    fX4_lyndonCount_J54 N (0 : Int64)
  else
    gd (nzL ((x1).toInt64)) (
      fX4_lyndonCount_J54 N (x2 / (x1).toInt64))
def fX4_lyndonCount_J36 (N : Nat) (k5 : Int32 → Int32 → Int64 → Int32 → Option Int64) (x0 : Int32) (x1 : Int32) (x2 : Int64) (x4 : Int32) : Option Int64 :=
  k5 x0 x1 x2 (x4 + 1)
def fX4_lyndonCount_B5 (N : Nat) (k5 : Int32 → Int32 → Int64 → Int32 → Option Int64) (x0 : Int32) (x1 : Int32) (x2 : Int64) (x4 : Int32) : Option Int64 :=
  if x1 < x4 then
    fX4_lyndonCount_J42 N x1 x2
  else
    gd (nz x4) (
      if (x1 - x1 / x4 * x4) = 0 then
        bn (fX4_moebius N x4) (fun v21 =>
          gd (nz x4) (
            bn (fX4_power N x0 (x1 / x4)) (fun v30 =>
              fX4_lyndonCount_J36 N k5 x0 x1 (x2 + ((v21).toInt64 * v30)) x4)))
      else
        fX4_lyndonCount_J36 N k5 x0 x1 x2 x4)
def fX4_lyndonCount_H5 (N : Nat) : Nat → Int32 → Int32 → Int64 → Int32 → Option Int64
  | 0, _, _, _, _ => none
  | n + 1, x0, x1, x2, x4 => fX4_lyndonCount_B5 N (fX4_lyndonCount_H5 N n) x0 x1 x2 x4
def fX4_lyndonCount (N : Nat) (p0 : Int32) (p1 : Int32) : Option Int64 :=
  fX4_lyndonCount_H5 N N p0 p1 (0 : Int64) (1 : Int32)
def fX4_necklaceCount_J33 (N : Nat) (x2 : Int64) : Option Int64 :=
  some x2
def fX4_necklaceCount_J27 (N : Nat) (k5 : Int32 → Int32 → Int64 → Int32 → Option Int64) (x0 : Int32) (x1 : Int32) (x2 : Int64) (x4 : Int32) : Option Int64 :=
  k5 x0 x1 x2 (x4 + 1)
def fX4_necklaceCount_B5 (N : Nat) (k5 : Int32 → Int32 → Int64 → Int32 → Option Int64) (x0 : Int32) (x1 : Int32) (x2 : Int64) (x4 : Int32) : Option Int64 :=
  if x1 < x4 then
    fX4_necklaceCount_J33 N x2
  else
    gd (nz x4) (
      if (x1 - x1 / x4 * x4) = 0 then
        bn (fX4_lyndonCount N x0 x4) (fun v22 =>
          fX4_necklaceCount_J27 N k5 x0 x1 (x2 + v22) x4)
      else
        fX4_necklaceCount_J27 N k5 x0 x1 x2 x4)
def fX4_necklaceCount_H5 (N : Nat) : Nat → Int32 → Int32 → Int64 → Int32 → Option Int64
  | 0, _, _, _, _ => none
  | n + 1, x0, x1, x2, x4 => fX4_necklaceCount_B5 N (fX4_necklaceCount_H5 N n) x0 x1 x2 x4
def fX4_necklaceCount (N : Nat) (p0 : Int32) (p1 : Int32) : Option Int64 :=
  fX4_necklaceCount_H5 N N p0 p1 (0 : Int64) (1 : Int32)
def fX8_loadNecklace_J28 (N : Nat) (Tn : Int32) (Ta : (Nat → Int32)) (Wg : Int32) (Wz : Int32) (Ww : Int32) (Wr : Int32) : Option ((Nat × Int32 × (Nat → Int32) × Int32 × Int32 × Int32 × Int32) ⊕ (Int32 × Int32 × (Nat → Int32) × Int32 × Int32 × Int32 × Int32)) :=
  some (.inl (1, Tn, Ta, Wg, Wz, Ww, Wr))
def fX8_loadNecklace_J70 (N : Nat) (Tn : Int32) (Ta : (Nat → Int32)) (Wg : Int32) (Wz : Int32) (Ww : Int32) (Wr : Int32) (x2 : Int32) : Option ((Nat × Int32 × (Nat → Int32) × Int32 × Int32 × Int32 × Int32) ⊕ (Int32 × Int32 × (Nat → Int32) × Int32 × Int32 × Int32 × Int32)) :=
  bn (fX2_empty N Tn) (fun v74 =>
    bn (fX8_pushFromWalk N v74 Ta Wg Wz Ww Wr x2) (fun v79 =>
      bn (fX3_root N Wg Wz Ww Wr) (fun v86 =>
        some (.inr (v86, v79.1, v79.2, Wg, Wz, Ww, Wr)))))
def fX8_loadNecklace_B50 (N : Nat) (k50 : Int32 → (Nat → Int32) → Int32 → Int32 → Int32 → Int32 → Int32 → Int32 → Int32 → Option ((Nat × Int32 × (Nat → Int32) × Int32 × Int32 × Int32 × Int32) ⊕ (Int32 × Int32 × (Nat → Int32) × Int32 × Int32 × Int32 × Int32))) (Tn : Int32) (Ta : (Nat → Int32)) (Wg : Int32) (Wz : Int32) (Ww : Int32) (Wr : Int32) (x2 : Int32) (x3 : Int32) (x4 : Int32) : Option ((Nat × Int32 × (Nat → Int32) × Int32 × Int32 × Int32 × Int32) ⊕ (Int32 × Int32 × (Nat → Int32) × Int32 × Int32 × Int32 × Int32)) :=
  if x3 ≤ x4 then
    fX8_loadNecklace_J70 N Tn Ta Wg Wz Ww Wr x2
  else
    bn (fX3_toNextNecklace N Wg Wz Ww Wr) (fun v60 =>
      k50 Tn Ta Wg Wz v60.2.1 v60.2.2 x2 x3 (x4 + 1))
def fX8_loadNecklace_H50 (N : Nat) : Nat → Int32 → (Nat → Int32) → Int32 → Int32 → Int32 → Int32 → Int32 → Int32 → Int32 → Option ((Nat × Int32 × (Nat → Int32) × Int32 × Int32 × Int32 × Int32) ⊕ (Int32 × Int32 × (Nat → Int32) × Int32 × Int32 × Int32 × Int32))
  | 0, _, _, _, _, _, _, _, _, _ => none
  | n + 1, Tn, Ta, Wg, Wz, Ww, Wr, x2, x3, x4 => fX8_loadNecklace_B50 N (fX8_loadNecklace_H50 N n) Tn Ta Wg Wz Ww Wr x2 x3 x4
def fX8_loadNecklace (N : Nat) (Tn : Int32) (Ta : (Nat → Int32)) (Wg : Int32) (Wz : Int32) (Ww : Int32) (Wr : Int32) (p1 : Int32) (p2 : Int32) (p3 : Int32) : Option ((Nat × Int32 × (Nat → Int32) × Int32 × Int32 × Int32 × Int32) ⊕ (Int32 × Int32 × (Nat → Int32) × Int32 × Int32 × Int32 × Int32)) :=
  bx (fX8_checkArgument N p1 (1 : Int32) (4 : Int32)) (fun z3 => some (.inl (z3, Tn, Ta, Wg, Wz, Ww, Wr))) (fun v3 =>
    bx (fX8_checkArgument N p2 (1 : Int32) (8 : Int32)) (fun z10 => some (.inl (z10, Tn, Ta, Wg, Wz, Ww, Wr))) (fun v10 =>
      if p3 < 0 then
        fX8_loadNecklace_J28 N Tn Ta Wg Wz Ww Wr
      else
        bn (fX4_necklaceCount N p1 p2) (fun v21 =>
          if (lg_cmp ((p3).toInt64) v21) < 0 then
            bn (fX3_begin N Wg Wz Ww Wr p1 p2) (fun v44 =>
              fX8_loadNecklace_H50 N N Tn Ta v44.1 v44.2.1 v44.2.2.1 v44.2.2.2 p2 p3 (0 : Int32))
          else
            fX8_loadNecklace_J28 N Tn Ta Wg Wz Ww Wr)))
def fX8_length (N : Nat) (Tn : Int32) : Option Int32 :=
  bn (fX2_count N Tn) (fun v4 =>
    some v4)
def fX8_letterAt (N : Nat) (Tn : Int32) (Ta : (Nat → Int32)) (p1 : Int32) : Option (Nat ⊕ Int32) :=
  bn (fX2_count N Tn) (fun v5 =>
    bx (fX8_checkIndex N p1 v5) (fun z8 => some (.inl z8)) (fun v8 =>
      bn (fX2_letter N Tn Ta p1) (fun v16 =>
        some (.inr v16))))
def fX2_countSame_J51 (N : Nat) (Tn : Int32) (Ta : (Nat → Int32)) (x4 : Int32) : Option Int32 :=
  some x4
def fX2_countSame_B14 (N : Nat) (Tn : Int32) (Ta : (Nat → Int32)) (k14 : Int32 → Int32 → Int32 → Int32 → Option Int32) (x1 : Int32) (x2 : Int32) (x3 : Int32) (x4 : Int32) : Option Int32 :=
  if x3 ≤ x4 then
    fX2_countSame_J51 N Tn Ta x4
  else
    bn (fX8_at N 64 Ta (x1 + x4)) (fun v28 =>
      bn (fX8_at N 64 Ta (x2 + x4)) (fun v39 =>
        if v28 = v39 then
          k14 x1 x2 x3 (x4 + 1)
        else
          fX2_countSame_J51 N Tn Ta x4))
def fX2_countSame_H14 (N : Nat) (Tn : Int32) (Ta : (Nat → Int32)) : Nat → Int32 → Int32 → Int32 → Int32 → Option Int32
  | 0, _, _, _, _ => none
  | n + 1, x1, x2, x3, x4 => fX2_countSame_B14 N Tn Ta (fX2_countSame_H14 N Tn Ta n) x1 x2 x3 x4
def fX2_countSame (N : Nat) (Tn : Int32) (Ta : (Nat → Int32)) (p1 : Int32) (p2 : Int32) : Option Int32 :=
  fX2_countSame_H14 N Tn Ta N p1 p2 (Tn - (if p1 < p2 then p2 else p1)) (0 : Int32)
def fX8_compare (N : Nat) (Tn : Int32) (Ta : (Nat → Int32)) (p1 : Int32) (p2 : Int32) (p3 : Int32) (p4 : Int32) : Option (Nat ⊕ Int32) :=
  bx (fX8_checkPart N Tn p1 p2) (fun z3 => some (.inl z3)) (fun v3 =>
    bx (fX8_checkPart N Tn p3 p4) (fun z10 => some (.inl z10)) (fun v10 =>
      bn (fX2_countSame N Tn Ta p1 p3) (fun v31 =>
        if (if (p4 - p3) < (p2 - p1) then (p4 - p3) else (p2 - p1)) ≤ v31 then
          bn (fJ6_compare_7cf53 N (p2 - p1) (p4 - p3)) (fun v76 =>
            some (.inr v76))
        else
          bn (fX2_letter N Tn Ta (p1 + v31)) (fun v51 =>
            bn (fX2_letter N Tn Ta (p3 + v31)) (fun v62 =>
              bn (fJ6_compare_7cf53 N v51 v62) (fun v65 =>
                some (.inr v65)))))))
def fX8_commonPrefix (N : Nat) (Tn : Int32) (Ta : (Nat → Int32)) (p1 : Int32) (p2 : Int32) : Option (Nat ⊕ Int32) :=
  bn (fX2_count N Tn) (fun v5 =>
    bx (fX8_checkIndex N p1 (v5 + (1 : Int32))) (fun z10 => some (.inl z10)) (fun v10 =>
      bn (fX2_count N Tn) (fun v18 =>
        bx (fX8_checkIndex N p2 (v18 + (1 : Int32))) (fun z23 => some (.inl z23)) (fun v23 =>
          bn (fX2_countSame N Tn Ta p1 p2) (fun v32 =>
            some (.inr v32))))))
def fX1_firstLength_J68 (N : Nat) (Tn : Int32) (Ta : (Nat → Int32)) (x4 : Int32) : Option Int32 :=
  some x4
def fX1_firstLength_J46 (N : Nat) (Tn : Int32) (Ta : (Nat → Int32)) (x4 : Int32) : Option Int32 :=
  some x4
def fX1_firstLength_J62 (N : Nat) (Tn : Int32) (Ta : (Nat → Int32)) (k8 : Int32 → Int32 → Int32 → Int32 → Int32 → Option Int32) (x1 : Int32) (x2 : Int32) (x3 : Int32) (x4 : Int32) (x5 : Int32) : Option Int32 :=
  k8 x1 x2 x3 x4 (x5 + 1)
def fX1_firstLength_J41 (N : Nat) (Tn : Int32) (Ta : (Nat → Int32)) (k8 : Int32 → Int32 → Int32 → Int32 → Int32 → Option Int32) (x1 : Int32) (x2 : Int32) (x3 : Int32) (x4 : Int32) (x5 : Int32) (x6 : Int32) : Option Int32 :=
  if 0 ≤ x6 then
    if x6 ≤ 0 then
      fX1_firstLength_J62 N Tn Ta k8 x1 x2 x3 x4 x5
    else
      fX1_firstLength_J62 N Tn Ta k8 x1 x2 x3 ((x5 + (1 : Int32)) - x1) x5
  else
    fX1_firstLength_J46 N Tn Ta x4
def fX1_firstLength_B8 (N : Nat) (Tn : Int32) (Ta : (Nat → Int32)) (k8 : Int32 → Int32 → Int32 → Int32 → Int32 → Option Int32) (x1 : Int32) (x2 : Int32) (x3 : Int32) (x4 : Int32) (x5 : Int32) : Option Int32 :=
  if x2 ≤ x5 then
    fX1_firstLength_J68 N Tn Ta x4
  else
    bn (fX2_letter N Tn Ta x5) (fun v17 =>
      bn (fX2_letter N Tn Ta (x5 - x4)) (fun v26 =>
        if x3 = 0 then
          fX1_firstLength_J41 N Tn Ta k8 x1 x2 x3 x4 x5 (v17 - v26)
        else
          fX1_firstLength_J41 N Tn Ta k8 x1 x2 x3 x4 x5 (-(v17 - v26))))
def fX1_firstLength_H8 (N : Nat) (Tn : Int32) (Ta : (Nat → Int32)) : Nat → Int32 → Int32 → Int32 → Int32 → Int32 → Option Int32
  | 0, _, _, _, _, _ => none
  | n + 1, x1, x2, x3, x4, x5 => fX1_firstLength_B8 N Tn Ta (fX1_firstLength_H8 N Tn Ta n) x1 x2 x3 x4 x5
def fX1_firstLength (N : Nat) (Tn : Int32) (Ta : (Nat → Int32)) (p1 : Int32) (p2 : Int32) (p3 : Int32) : Option Int32 :=
  fX1_firstLength_H8 N Tn Ta N p1 p2 p3 (1 : Int32) (p1 + (1 : Int32))
def fX1_isOneFactor_J18 (N : Nat) (Tn : Int32) (Ta : (Nat → Int32)) (y0 : Int32) : Option Int32 :=
  gd (isB y0) (some y0)
def fX1_isOneFactor (N : Nat) (Tn : Int32) (Ta : (Nat → Int32)) (p1 : Int32) (p2 : Int32) : Option Int32 :=
  bn (fX1_firstLength N Tn Ta p1 p2 (0 : Int32)) (fun v4 =>
    if v4 = (p2 - p1) then
      fX1_isOneFactor_J18 N Tn Ta (1 : Int32)
    else
      fX1_isOneFactor_J18 N Tn Ta (0 : Int32))
def fX8_isLyndon (N : Nat) (Tn : Int32) (Ta : (Nat → Int32)) (p1 : Int32) (p2 : Int32) : Option (Nat ⊕ Int32) :=
  bx (fX8_checkPart N Tn p1 p2) (fun z3 => some (.inl z3)) (fun v3 =>
    bn (fX1_isOneFactor N Tn Ta p1 p2) (fun v12 =>
      gd (isB v12) (some (.inr v12))))
def fX1_find_J62 (N : Nat) (Tn : Int32) (Ta : (Nat → Int32)) (Fn : Int32) (Fa : (Nat → Int32)) : Option (Int32 × (Nat → Int32)) :=
  bn (fX2_count N Tn) (fun v71 =>
    bn (fX8_put N 65 Fa Fn v71) (fun v74 =>
      some (Fn, v74)))
def fX1_find_B7 (N : Nat) (Tn : Int32) (Ta : (Nat → Int32)) (k7 : Int32 → (Nat → Int32) → Int32 → Option (Int32 × (Nat → Int32))) (Fn : Int32) (Fa : (Nat → Int32)) (x2 : Int32) : Option (Int32 × (Nat → Int32)) :=
  bn (fX2_count N Tn) (fun v9 =>
    if v9 ≤ x2 then
      fX1_find_J62 N Tn Ta Fn Fa
    else
      if (64 : Int32) ≤ Fn then
        fX1_find_J62 N Tn Ta Fn Fa
      else
        bn (fX8_put N 65 Fa Fn x2) (fun v33 =>
          bn (fX2_count N Tn) (fun v50 =>
            bn (fX1_firstLength N Tn Ta x2 v50 (0 : Int32)) (fun v54 =>
              k7 (Fn + (1 : Int32)) v33 (x2 + v54)))))
def fX1_find_H7 (N : Nat) (Tn : Int32) (Ta : (Nat → Int32)) : Nat → Int32 → (Nat → Int32) → Int32 → Option (Int32 × (Nat → Int32))
  | 0, _, _, _ => none
  | n + 1, Fn, Fa, x2 => fX1_find_B7 N Tn Ta (fX1_find_H7 N Tn Ta n) Fn Fa x2
def fX1_find (N : Nat) (Tn : Int32) (Ta : (Nat → Int32)) (Fn : Int32) (Fa : (Nat → Int32)) : Option (Int32 × (Nat → Int32)) :=
  fX1_find_H7 N Tn Ta N (0 : Int32) Fa (0 : Int32)
def fX1_count (N : Nat) (Fn : Int32) : Option Int32 :=
  some Fn
def fX8_factors (N : Nat) (Tn : Int32) (Ta : (Nat → Int32)) (Fn : Int32) (Fa : (Nat → Int32)) : Option (Int32 × Int32 × (Nat → Int32)) :=
  bn (fX1_find N Tn Ta Fn Fa) (fun v8 =>
    bn (fX1_count N v8.1) (fun v15 =>
      some (v15, v8.1, v8.2)))
def fX8_findFactor (N : Nat) (Tn : Int32) (Ta : (Nat → Int32)) (Fn : Int32) (Fa : (Nat → Int32)) (p1 : Int32) : Option ((Nat × Int32 × (Nat → Int32)) ⊕ (Int32 × (Nat → Int32))) :=
  bn (fX1_find N Tn Ta Fn Fa) (fun v8 =>
    bn (fX1_count N v8.1) (fun v16 =>
      bx (fX8_checkIndex N p1 v16) (fun z19 => some (.inl (z19, v8.1, v8.2))) (fun v19 =>
        some (.inr (v8.1, v8.2)))))
def fX1_start (N : Nat) (Fn : Int32) (Fa : (Nat → Int32)) (p1 : Int32) : Option Int32 :=
  bn (fX8_at N 65 Fa p1) (fun v5 =>
    some v5)
def fX8_factorStart (N : Nat) (Tn : Int32) (Ta : (Nat → Int32)) (Fn : Int32) (Fa : (Nat → Int32)) (p1 : Int32) : Option ((Nat × Int32 × (Nat → Int32)) ⊕ (Int32 × Int32 × (Nat → Int32))) :=
  bx (fX8_findFactor N Tn Ta Fn Fa p1) (fun z2 => some (.inl (z2.1, z2.2.1, z2.2.2))) (fun v2 =>
    bn (fX1_start N v2.1 v2.2 p1) (fun v10 =>
      some (.inr (v10, v2.1, v2.2))))
def fX8_factorLength (N : Nat) (Tn : Int32) (Ta : (Nat → Int32)) (Fn : Int32) (Fa : (Nat → Int32)) (p1 : Int32) : Option ((Nat × Int32 × (Nat → Int32)) ⊕ (Int32 × Int32 × (Nat → Int32))) :=
  bx (fX8_findFactor N Tn Ta Fn Fa p1) (fun z2 => some (.inl (z2.1, z2.2.1, z2.2.2))) (fun v2 =>
    bn (fX1_start N v2.1 v2.2 (p1 + (1 : Int32))) (fun v12 =>
      bn (fX1_start N v2.1 v2.2 p1) (fun v20 =>
        some (.inr ((v12 - v20), v2.1, v2.2)))))
def fX1_numberOver_J32 (N : Nat) (Fn : Int32) (Fa : (Nat → Int32)) (x2 : Int32) : Option Int32 :=
  some x2
def fX1_numberOver_B2 (N : Nat) (Fn : Int32) (Fa : (Nat → Int32)) (k2 : Int32 → Int32 → Option Int32) (x1 : Int32) (x2 : Int32) : Option Int32 :=
  if (Fn - (1 : Int32)) ≤ x2 then
    fX1_numberOver_J32 N Fn Fa x2
  else
    bn (fX8_at N 65 Fa (x2 + (1 : Int32))) (fun v19 =>
      if x1 < v19 then
        fX1_numberOver_J32 N Fn Fa x2
      else
        k2 x1 (x2 + 1))
def fX1_numberOver_H2 (N : Nat) (Fn : Int32) (Fa : (Nat → Int32)) : Nat → Int32 → Int32 → Option Int32
  | 0, _, _ => none
  | n + 1, x1, x2 => fX1_numberOver_B2 N Fn Fa (fX1_numberOver_H2 N Fn Fa n) x1 x2
def fX1_numberOver (N : Nat) (Fn : Int32) (Fa : (Nat → Int32)) (p1 : Int32) : Option Int32 :=
  fX1_numberOver_H2 N Fn Fa N p1 (0 : Int32)
def fX8_factorOver (N : Nat) (Tn : Int32) (Ta : (Nat → Int32)) (Fn : Int32) (Fa : (Nat → Int32)) (p1 : Int32) : Option ((Nat × Int32 × (Nat → Int32)) ⊕ (Int32 × Int32 × (Nat → Int32))) :=
  bn (fX2_count N Tn) (fun v5 =>
    bx (fX8_checkIndex N p1 v5) (fun z8 => some (.inl (z8, Fn, Fa))) (fun v8 =>
      bn (fX1_find N Tn Ta Fn Fa) (fun v19 =>
        bn (fX1_numberOver N v19.1 v19.2 p1) (fun v27 =>
          some (.inr (v27, v19.1, v19.2))))))
def fX8_longestLyndon (N : Nat) (Tn : Int32) (Ta : (Nat → Int32)) (p1 : Int32) (p2 : Int32) : Option (Nat ⊕ Int32) :=
  bn (fX2_count N Tn) (fun v5 =>
    bx (fX8_checkIndex N p1 v5) (fun z8 => some (.inl z8)) (fun v8 =>
      bn (fX2_count N Tn) (fun v20 =>
        bn (fX1_firstLength N Tn Ta p1 v20 p2) (fun v24 =>
          some (.inr v24)))))
def fX8_standardFactor_J25 (N : Nat) (Tn : Int32) (Ta : (Nat → Int32)) : Option (Nat ⊕ Int32) :=
  some (.inl 2)
def fX8_standardFactor_J64 (N : Nat) (Tn : Int32) (Ta : (Nat → Int32)) (x3 : Int32) : Option (Nat ⊕ Int32) :=
  some (.inr x3)
def fX8_standardFactor_B39 (N : Nat) (Tn : Int32) (Ta : (Nat → Int32)) (k39 : Int32 → Int32 → Option (Nat ⊕ Int32)) (x2 : Int32) (x3 : Int32) : Option (Nat ⊕ Int32) :=
  if (x2 - (1 : Int32)) ≤ x3 then
    fX8_standardFactor_J64 N Tn Ta x3
  else
    bn (fX1_isOneFactor N Tn Ta x3 x2) (fun v52 =>
      if v52 = 0 then
        k39 x2 (x3 + 1)
      else
        fX8_standardFactor_J64 N Tn Ta x3)
def fX8_standardFactor_H39 (N : Nat) (Tn : Int32) (Ta : (Nat → Int32)) : Nat → Int32 → Int32 → Option (Nat ⊕ Int32)
  | 0, _, _ => none
  | n + 1, x2, x3 => fX8_standardFactor_B39 N Tn Ta (fX8_standardFactor_H39 N Tn Ta n) x2 x3
def fX8_standardFactor (N : Nat) (Tn : Int32) (Ta : (Nat → Int32)) (p1 : Int32) (p2 : Int32) : Option (Nat ⊕ Int32) :=
  bx (fX8_checkPart N Tn p1 p2) (fun z3 => some (.inl z3)) (fun v3 =>
    if (p2 - p1) = (1 : Int32) then
      fX8_standardFactor_J25 N Tn Ta
    else
      bn (fX1_isOneFactor N Tn Ta p1 p2) (fun v19 =>
        if v19 = 0 then
          fX8_standardFactor_J25 N Tn Ta
        else
          fX8_standardFactor_H39 N Tn Ta N p2 (p1 + (1 : Int32))))
def fX5_letter_J24 (N : Nat) (Tn : Int32) (Ta : (Nat → Int32)) (y0 : Int32) : Option Int32 :=
  some y0
def fX5_letter (N : Nat) (Tn : Int32) (Ta : (Nat → Int32)) (p1 : Int32) (p2 : Int32) (p3 : Int32) : Option Int32 :=
  if (p2 - p1) ≤ 0 then
    fX5_letter_J24 N Tn Ta (0 : Int32)
  else
    gd (nz (p2 - p1)) (
      bn (fX2_letter N Tn Ta (p1 + (p3 - p3 / (p2 - p1) * (p2 - p1)))) (fun v17 =>
        fX5_letter_J24 N Tn Ta v17))
def fX5_difference_J49 (N : Nat) (Tn : Int32) (Ta : (Nat → Int32)) (x5 : Int32) : Option Int32 :=
  some x5
def fX5_difference_B6 (N : Nat) (Tn : Int32) (Ta : (Nat → Int32)) (k6 : Int32 → Int32 → Int32 → Int32 → Int32 → Int32 → Option Int32) (x1 : Int32) (x2 : Int32) (x3 : Int32) (x4 : Int32) (x5 : Int32) (x6 : Int32) : Option Int32 :=
  if (x2 - x1) ≤ x6 then
    fX5_difference_J49 N Tn Ta x5
  else
    if x5 = 0 then
      bn (fX5_letter N Tn Ta x1 x2 (x3 + x6)) (fun v26 =>
        bn (fX5_letter N Tn Ta x1 x2 (x4 + x6)) (fun v37 =>
          k6 x1 x2 x3 x4 (v26 - v37) (x6 + 1)))
    else
      fX5_difference_J49 N Tn Ta x5
def fX5_difference_H6 (N : Nat) (Tn : Int32) (Ta : (Nat → Int32)) : Nat → Int32 → Int32 → Int32 → Int32 → Int32 → Int32 → Option Int32
  | 0, _, _, _, _, _, _ => none
  | n + 1, x1, x2, x3, x4, x5, x6 => fX5_difference_B6 N Tn Ta (fX5_difference_H6 N Tn Ta n) x1 x2 x3 x4 x5 x6
def fX5_difference (N : Nat) (Tn : Int32) (Ta : (Nat → Int32)) (p1 : Int32) (p2 : Int32) (p3 : Int32) (p4 : Int32) : Option Int32 :=
  fX5_difference_H6 N Tn Ta N p1 p2 p3 p4 (0 : Int32) (0 : Int32)
def fX5_least_J34 (N : Nat) (Tn : Int32) (Ta : (Nat → Int32)) (x3 : Int32) : Option Int32 :=
  some x3
def fX5_least_J28 (N : Nat) (Tn : Int32) (Ta : (Nat → Int32)) (k5 : Int32 → Int32 → Int32 → Int32 → Option Int32) (x1 : Int32) (x2 : Int32) (x3 : Int32) (x4 : Int32) : Option Int32 :=
  k5 x1 x2 x3 (x4 + 1)
def fX5_least_B5 (N : Nat) (Tn : Int32) (Ta : (Nat → Int32)) (k5 : Int32 → Int32 → Int32 → Int32 → Option Int32) (x1 : Int32) (x2 : Int32) (x3 : Int32) (x4 : Int32) : Option Int32 :=
  if (x2 - x1) ≤ x4 then
    fX5_least_J34 N Tn Ta x3
  else
    bn (fX5_difference N Tn Ta x1 x2 x4 x3) (fun v19 =>
      if 0 ≤ v19 then
        fX5_least_J28 N Tn Ta k5 x1 x2 x3 x4
      else
        fX5_least_J28 N Tn Ta k5 x1 x2 x4 x4)
def fX5_least_H5 (N : Nat) (Tn : Int32) (Ta : (Nat → Int32)) : Nat → Int32 → Int32 → Int32 → Int32 → Option Int32
  | 0, _, _, _, _ => none
  | n + 1, x1, x2, x3, x4 => fX5_least_B5 N Tn Ta (fX5_least_H5 N Tn Ta n) x1 x2 x3 x4
def fX5_least (N : Nat) (Tn : Int32) (Ta : (Nat → Int32)) (p1 : Int32) (p2 : Int32) : Option Int32 :=
  fX5_least_H5 N Tn Ta N p1 p2 (0 : Int32) (1 : Int32)
def fX8_leastRotation (N : Nat) (Tn : Int32) (Ta : (Nat → Int32)) (p1 : Int32) (p2 : Int32) : Option (Nat ⊕ Int32) :=
  bx (fX8_checkPart N Tn p1 p2) (fun z3 => some (.inl z3)) (fun v3 =>
    bn (fX5_least N Tn Ta p1 p2) (fun v12 =>
      some (.inr v12)))
def fX5_greatest_J34 (N : Nat) (Tn : Int32) (Ta : (Nat → Int32)) (x3 : Int32) : Option Int32 :=
  some x3
def fX5_greatest_J28 (N : Nat) (Tn : Int32) (Ta : (Nat → Int32)) (k5 : Int32 → Int32 → Int32 → Int32 → Option Int32) (x1 : Int32) (x2 : Int32) (x3 : Int32) (x4 : Int32) : Option Int32 :=
  k5 x1 x2 x3 (x4 + 1)
def fX5_greatest_B5 (N : Nat) (Tn : Int32) (Ta : (Nat → Int32)) (k5 : Int32 → Int32 → Int32 → Int32 → Option Int32) (x1 : Int32) (x2 : Int32) (x3 : Int32) (x4 : Int32) : Option Int32 :=
  if (x2 - x1) ≤ x4 then
    fX5_greatest_J34 N Tn Ta x3
  else
    bn (fX5_difference N Tn Ta x1 x2 x4 x3) (fun v19 =>
      if v19 ≤ 0 then
        fX5_greatest_J28 N Tn Ta k5 x1 x2 x3 x4
      else
        fX5_greatest_J28 N Tn Ta k5 x1 x2 x4 x4)
def fX5_greatest_H5 (N : Nat) (Tn : Int32) (Ta : (Nat → Int32)) : Nat → Int32 → Int32 → Int32 → Int32 → Option Int32
  | 0, _, _, _, _ => none
  | n + 1, x1, x2, x3, x4 => fX5_greatest_B5 N Tn Ta (fX5_greatest_H5 N Tn Ta n) x1 x2 x3 x4
def fX5_greatest (N : Nat) (Tn : Int32) (Ta : (Nat → Int32)) (p1 : Int32) (p2 : Int32) : Option Int32 :=
  fX5_greatest_H5 N Tn Ta N p1 p2 (0 : Int32) (1 : Int32)
def fX8_greatestRotation (N : Nat) (Tn : Int32) (Ta : (Nat → Int32)) (p1 : Int32) (p2 : Int32) : Option (Nat ⊕ Int32) :=
  bx (fX8_checkPart N Tn p1 p2) (fun z3 => some (.inl z3)) (fun v3 =>
    bn (fX5_greatest N Tn Ta p1 p2) (fun v12 =>
      some (.inr v12)))
def fX0_widened_J84 (N : Nat) (Tn : Int32) (Ta : (Nat → Int32)) (Ba : (Nat → Int32)) (y0 : Int32) : Option Int32 :=
  some y0
def fX0_widened_J63 (N : Nat) (Tn : Int32) (Ta : (Nat → Int32)) (Ba : (Nat → Int32)) (x2 : Int32) (x4 : Int32) (x5 : Int32) : Option Int32 :=
  bn (fX2_letter N Tn Ta (x2 + x5)) (fun v68 =>
    if v68 = x4 then
      fX0_widened_J84 N Tn Ta Ba (x5 + (1 : Int32))
    else
      fX0_widened_J84 N Tn Ta Ba (0 : Int32))
def fX0_widened_B22 (N : Nat) (Tn : Int32) (Ta : (Nat → Int32)) (Ba : (Nat → Int32)) (k22 : Int32 → Int32 → Int32 → Int32 → Int32 → Option Int32) (x2 : Int32) (x3 : Int32) (x4 : Int32) (x5 : Int32) (x6 : Int32) : Option Int32 :=
  if x3 ≤ x6 then
    fX0_widened_J63 N Tn Ta Ba x2 x4 x5
  else
    if x5 ≤ 0 then
      fX0_widened_J63 N Tn Ta Ba x2 x4 x5
    else
      bn (fX2_letter N Tn Ta (x2 + x5)) (fun v38 =>
        if v38 = x4 then
          fX0_widened_J63 N Tn Ta Ba x2 x4 x5
        else
          bn (fX8_at N 65 Ba x5) (fun v52 =>
            k22 x2 x3 x4 v52 (x6 + 1)))
def fX0_widened_H22 (N : Nat) (Tn : Int32) (Ta : (Nat → Int32)) (Ba : (Nat → Int32)) : Nat → Int32 → Int32 → Int32 → Int32 → Int32 → Option Int32
  | 0, _, _, _, _, _ => none
  | n + 1, x2, x3, x4, x5, x6 => fX0_widened_B22 N Tn Ta Ba (fX0_widened_H22 N Tn Ta Ba n) x2 x3 x4 x5 x6
def fX0_widened (N : Nat) (Tn : Int32) (Ta : (Nat → Int32)) (Ba : (Nat → Int32)) (p2 : Int32) (p3 : Int32) : Option Int32 :=
  bn (fX2_letter N Tn Ta (p2 + p3)) (fun v4 =>
    bn (fX8_at N 65 Ba p3) (fun v14 =>
      fX0_widened_H22 N Tn Ta Ba N p2 p3 v4 v14 (0 : Int32)))
def fX0_longest_J45 (N : Nat) (Tn : Int32) (Ta : (Nat → Int32)) (Ba : (Nat → Int32)) (x2 : Int32) (x3 : Int32) : Option (Int32 × (Nat → Int32)) :=
  bn (fX8_at N 65 Ba (x3 - x2)) (fun v52 =>
    some (v52, Ba))
def fX0_longest_B12 (N : Nat) (Tn : Int32) (Ta : (Nat → Int32)) (k12 : (Nat → Int32) → Int32 → Int32 → Int32 → Option (Int32 × (Nat → Int32))) (Ba : (Nat → Int32)) (x2 : Int32) (x3 : Int32) (x4 : Int32) : Option (Int32 × (Nat → Int32)) :=
  if (x3 - x2) ≤ x4 then
    fX0_longest_J45 N Tn Ta Ba x2 x3
  else
    bn (fX0_widened N Tn Ta Ba x2 x4) (fun v33 =>
      bn (fX8_put N 65 Ba (x4 + (1 : Int32)) v33) (fun v36 =>
        k12 v36 x2 x3 (x4 + 1)))
def fX0_longest_H12 (N : Nat) (Tn : Int32) (Ta : (Nat → Int32)) : Nat → (Nat → Int32) → Int32 → Int32 → Int32 → Option (Int32 × (Nat → Int32))
  | 0, _, _, _, _ => none
  | n + 1, Ba, x2, x3, x4 => fX0_longest_B12 N Tn Ta (fX0_longest_H12 N Tn Ta n) Ba x2 x3 x4
def fX0_longest (N : Nat) (Tn : Int32) (Ta : (Nat → Int32)) (Ba : (Nat → Int32)) (p2 : Int32) (p3 : Int32) : Option (Int32 × (Nat → Int32)) :=
  bn (fX8_put N 65 Ba (1 : Int32) (0 : Int32)) (fun v6 =>
    fX0_longest_H12 N Tn Ta N v6 p2 p3 (1 : Int32))
def fX0_leastPeriod (N : Nat) (Tn : Int32) (Ta : (Nat → Int32)) (Ba : (Nat → Int32)) (p2 : Int32) (p3 : Int32) : Option (Int32 × (Nat → Int32)) :=
  bn (fX0_longest N Tn Ta Ba p2 p3) (fun v7 =>
    some (((p3 - p2) - v7.1), v7.2))
def fX0_rootSize_J31 (N : Nat) (Tn : Int32) (Ta : (Nat → Int32)) (Ba : (Nat → Int32)) (y0 : Int32) : Option (Int32 × (Nat → Int32)) :=
  some (y0, Ba)
def fX0_rootSize_J28 (N : Nat) (Tn : Int32) (Ta : (Nat → Int32)) (Ba : (Nat → Int32)) (x2 : Int32) (x3 : Int32) : Option (Int32 × (Nat → Int32)) :=
  fX0_rootSize_J31 N Tn Ta Ba (x3 - x2)
def fX0_rootSize (N : Nat) (Tn : Int32) (Ta : (Nat → Int32)) (Ba : (Nat → Int32)) (p2 : Int32) (p3 : Int32) : Option (Int32 × (Nat → Int32)) :=
  bn (fX0_leastPeriod N Tn Ta Ba p2 p3) (fun v4 =>
    if v4.1 ≤ 0 then
      fX0_rootSize_J28 N Tn Ta v4.2 p2 p3
    else
      gd (nz v4.1) (
        if ((p3 - p2) - (p3 - p2) / v4.1 * v4.1) = 0 then
          fX0_rootSize_J31 N Tn Ta v4.2 v4.1
        else
          fX0_rootSize_J28 N Tn Ta v4.2 p2 p3))
def fX8_rotations (N : Nat) (Tn : Int32) (Ta : (Nat → Int32)) (Ba : (Nat → Int32)) (p1 : Int32) (p2 : Int32) : Option ((Nat × (Nat → Int32)) ⊕ (Int32 × (Nat → Int32))) :=
  bx (fX8_checkPart N Tn p1 p2) (fun z3 => some (.inl (z3, Ba))) (fun v3 =>
    bn (fX0_rootSize N Tn Ta Ba p1 p2) (fun v16 =>
      some (.inr (v16.1, v16.2))))
def fX8_isNecklace_J23 (N : Nat) (Tn : Int32) (Ta : (Nat → Int32)) (y0 : Int32) : Option (Nat ⊕ Int32) :=
  gd (isB y0) (some (.inr y0))
def fX8_isNecklace (N : Nat) (Tn : Int32) (Ta : (Nat → Int32)) (p1 : Int32) (p2 : Int32) : Option (Nat ⊕ Int32) :=
  bx (fX8_checkPart N Tn p1 p2) (fun z3 => some (.inl z3)) (fun v3 =>
    bn (fX5_least N Tn Ta p1 p2) (fun v12 =>
      if v12 = 0 then
        fX8_isNecklace_J23 N Tn Ta (1 : Int32)
      else
        fX8_isNecklace_J23 N Tn Ta (0 : Int32)))
def fX8_period (N : Nat) (Tn : Int32) (Ta : (Nat → Int32)) (Ba : (Nat → Int32)) (p1 : Int32) (p2 : Int32) : Option ((Nat × (Nat → Int32)) ⊕ (Int32 × (Nat → Int32))) :=
  bx (fX8_checkPart N Tn p1 p2) (fun z3 => some (.inl (z3, Ba))) (fun v3 =>
    bn (fX0_leastPeriod N Tn Ta Ba p1 p2) (fun v16 =>
      some (.inr (v16.1, v16.2))))
def fX2_keepsPeriod_J42 (N : Nat) (Tn : Int32) (Ta : (Nat → Int32)) : Option Int32 :=
  gd (isB (1 : Int32)) (some (1 : Int32))
def fX2_keepsPeriod_J34 (N : Nat) (Tn : Int32) (Ta : (Nat → Int32)) : Option Int32 :=
  gd (isB (0 : Int32)) (some (0 : Int32))
def fX2_keepsPeriod_B5 (N : Nat) (Tn : Int32) (Ta : (Nat → Int32)) (k5 : Int32 → Int32 → Int32 → Option Int32) (x2 : Int32) (x3 : Int32) (x4 : Int32) : Option Int32 :=
  if x2 ≤ x4 then
    fX2_keepsPeriod_J42 N Tn Ta
  else
    bn (fX8_at N 64 Ta x4) (fun v17 =>
      bn (fX8_at N 64 Ta (x4 - x3)) (fun v28 =>
        if v17 = v28 then
          k5 x2 x3 (x4 + 1)
        else
          fX2_keepsPeriod_J34 N Tn Ta))
def fX2_keepsPeriod_H5 (N : Nat) (Tn : Int32) (Ta : (Nat → Int32)) : Nat → Int32 → Int32 → Int32 → Option Int32
  | 0, _, _, _ => none
  | n + 1, x2, x3, x4 => fX2_keepsPeriod_B5 N Tn Ta (fX2_keepsPeriod_H5 N Tn Ta n) x2 x3 x4
def fX2_keepsPeriod (N : Nat) (Tn : Int32) (Ta : (Nat → Int32)) (p1 : Int32) (p2 : Int32) (p3 : Int32) : Option Int32 :=
  fX2_keepsPeriod_H5 N Tn Ta N p2 p3 (p1 + p3)
def fX2_firstPeriod_J25 (N : Nat) (Tn : Int32) (Ta : (Nat → Int32)) (x3 : Int32) : Option Int32 :=
  some x3
def fX2_firstPeriod_B2 (N : Nat) (Tn : Int32) (Ta : (Nat → Int32)) (k2 : Int32 → Int32 → Int32 → Option Int32) (x1 : Int32) (x2 : Int32) (x3 : Int32) : Option Int32 :=
  if (x2 - x1) ≤ x3 then
    fX2_firstPeriod_J25 N Tn Ta x3
  else
    bn (fX2_keepsPeriod N Tn Ta x1 x2 x3) (fun v13 =>
      if v13 = 0 then
        k2 x1 x2 (x3 + 1)
      else
        fX2_firstPeriod_J25 N Tn Ta x3)
def fX2_firstPeriod_H2 (N : Nat) (Tn : Int32) (Ta : (Nat → Int32)) : Nat → Int32 → Int32 → Int32 → Option Int32
  | 0, _, _, _ => none
  | n + 1, x1, x2, x3 => fX2_firstPeriod_B2 N Tn Ta (fX2_firstPeriod_H2 N Tn Ta n) x1 x2 x3
def fX2_firstPeriod (N : Nat) (Tn : Int32) (Ta : (Nat → Int32)) (p1 : Int32) (p2 : Int32) : Option Int32 :=
  fX2_firstPeriod_H2 N Tn Ta N p1 p2 (1 : Int32)
def fX8_periodByTrying (N : Nat) (Tn : Int32) (Ta : (Nat → Int32)) (p1 : Int32) (p2 : Int32) : Option (Nat ⊕ Int32) :=
  bx (fX8_checkPart N Tn p1 p2) (fun z3 => some (.inl z3)) (fun v3 =>
    bn (fX2_firstPeriod N Tn Ta p1 p2) (fun v12 =>
      some (.inr v12)))
def fX8_isPeriod (N : Nat) (Tn : Int32) (Ta : (Nat → Int32)) (p1 : Int32) (p2 : Int32) (p3 : Int32) : Option (Nat ⊕ Int32) :=
  bx (fX8_checkPart N Tn p1 p2) (fun z3 => some (.inl z3)) (fun v3 =>
    bx (fX8_checkArgument N p3 (1 : Int32) (p2 - p1)) (fun z11 => some (.inl z11)) (fun v11 =>
      bn (fX2_keepsPeriod N Tn Ta p1 p2 p3) (fun v21 =>
        gd (isB v21) (some (.inr v21)))))
def fX0_countAll_J41 (N : Nat) (Tn : Int32) (Ta : (Nat → Int32)) (Ba : (Nat → Int32)) (x5 : Int32) : Option (Int32 × (Nat → Int32)) :=
  some (x5, Ba)
def fX0_countAll_B12 (N : Nat) (Tn : Int32) (Ta : (Nat → Int32)) (k12 : (Nat → Int32) → Int32 → Int32 → Option (Int32 × (Nat → Int32))) (Ba : (Nat → Int32)) (x4 : Int32) (x5 : Int32) : Option (Int32 × (Nat → Int32)) :=
  if x4 ≤ 0 then
    fX0_countAll_J41 N Tn Ta Ba x5
  else
    if (64 : Int32) ≤ x5 then
      fX0_countAll_J41 N Tn Ta Ba x5
    else
      bn (fX8_at N 65 Ba x4) (fun v30 =>
        k12 Ba v30 (x5 + 1))
def fX0_countAll_H12 (N : Nat) (Tn : Int32) (Ta : (Nat → Int32)) : Nat → (Nat → Int32) → Int32 → Int32 → Option (Int32 × (Nat → Int32))
  | 0, _, _, _ => none
  | n + 1, Ba, x4, x5 => fX0_countAll_B12 N Tn Ta (fX0_countAll_H12 N Tn Ta n) Ba x4 x5
def fX0_countAll (N : Nat) (Tn : Int32) (Ta : (Nat → Int32)) (Ba : (Nat → Int32)) (p2 : Int32) (p3 : Int32) : Option (Int32 × (Nat → Int32)) :=
  bn (fX0_longest N Tn Ta Ba p2 p3) (fun v4 =>
    fX0_countAll_H12 N Tn Ta N v4.2 v4.1 (1 : Int32))
def fX8_periods (N : Nat) (Tn : Int32) (Ta : (Nat → Int32)) (Ba : (Nat → Int32)) (p1 : Int32) (p2 : Int32) : Option ((Nat × (Nat → Int32)) ⊕ (Int32 × (Nat → Int32))) :=
  bx (fX8_checkPart N Tn p1 p2) (fun z3 => some (.inl (z3, Ba))) (fun v3 =>
    bn (fX0_countAll N Tn Ta Ba p1 p2) (fun v16 =>
      some (.inr (v16.1, v16.2))))
def fX8_border (N : Nat) (Tn : Int32) (Ta : (Nat → Int32)) (Ba : (Nat → Int32)) (p1 : Int32) (p2 : Int32) : Option ((Nat × (Nat → Int32)) ⊕ (Int32 × (Nat → Int32))) :=
  bx (fX8_checkPart N Tn p1 p2) (fun z3 => some (.inl (z3, Ba))) (fun v3 =>
    bn (fX0_longest N Tn Ta Ba p1 p2) (fun v16 =>
      some (.inr (v16.1, v16.2))))
def fX8_rootLength (N : Nat) (Tn : Int32) (Ta : (Nat → Int32)) (Ba : (Nat → Int32)) (p1 : Int32) (p2 : Int32) : Option ((Nat × (Nat → Int32)) ⊕ (Int32 × (Nat → Int32))) :=
  bx (fX8_checkPart N Tn p1 p2) (fun z3 => some (.inl (z3, Ba))) (fun v3 =>
    bn (fX0_rootSize N Tn Ta Ba p1 p2) (fun v16 =>
      some (.inr (v16.1, v16.2))))
def fX8_quotient_J13 (N : Nat) (y0 : UInt64) : Option UInt64 :=
  some y0
def fX8_quotient (N : Nat) (p0 : Int32) (p1 : Int32) : Option UInt64 :=
  if p1 ≤ 0 then
    fX8_quotient_J13 N FP.dconst0
  else
    gd (nonan (FP.ddiv (FP.i2d p0) (FP.i2d p1))) (
      fX8_quotient_J13 N (FP.ddiv (FP.i2d p0) (FP.i2d p1)))
def fX8_exponent (N : Nat) (Tn : Int32) (Ta : (Nat → Int32)) (Ba : (Nat → Int32)) (p1 : Int32) (p2 : Int32) : Option ((Nat × (Nat → Int32)) ⊕ (UInt64 × (Nat → Int32))) :=
  bx (fX8_checkPart N Tn p1 p2) (fun z3 => some (.inl (z3, Ba))) (fun v3 =>
    bn (fX0_leastPeriod N Tn Ta Ba p1 p2) (fun v19 =>
      bn (fX8_quotient N (p2 - p1) v19.1) (fun v22 =>
        some (.inr (v22, v19.2)))))
def fX6_findOne_J115 (N : Nat) (Tn : Int32) (Ta : (Nat → Int32)) (Rn : Int32) (Ra : (Nat → Int32)) (Rb : (Nat → Int32)) (Rd : (Nat → Int32)) : Option (Int32 × (Nat → Int32) × (Nat → Int32) × (Nat → Int32)) :=
  some (Rn, Ra, Rb, Rd)
def fX6_findOne_J24 (N : Nat) (Tn : Int32) (Ta : (Nat → Int32)) (Rn : Int32) (Ra : (Nat → Int32)) (Rb : (Nat → Int32)) (Rd : (Nat → Int32)) (x2 : Int32) (x3 : Int32) : Option (Int32 × (Nat → Int32) × (Nat → Int32) × (Nat → Int32)) :=
  bn (fX2_countSame N Tn Ta x2 (x2 + x3)) (fun v32 =>
    if (((x2 + x3) + v32) - x2) < ((2 : Int32) * x3) then
      fX6_findOne_J115 N Tn Ta Rn Ra Rb Rd
    else
      bn (fX2_firstPeriod N Tn Ta x2 ((x2 + x3) + v32)) (fun v52 =>
        if v52 = x3 then
          if (64 : Int32) ≤ Rn then
            fX6_findOne_J115 N Tn Ta Rn Ra Rb Rd
          else
            bn (fX8_put N 64 Ra Rn x2) (fun v77 =>
              bn (fX8_put N 64 Rb Rn ((x2 + x3) + v32)) (fun v90 =>
                bn (fX8_put N 64 Rd Rn x3) (fun v102 =>
                  fX6_findOne_J115 N Tn Ta (Rn + (1 : Int32)) v77 v90 v102)))
        else
          fX6_findOne_J115 N Tn Ta Rn Ra Rb Rd))
def fX6_findOne (N : Nat) (Tn : Int32) (Ta : (Nat → Int32)) (Rn : Int32) (Ra : (Nat → Int32)) (Rb : (Nat → Int32)) (Rd : (Nat → Int32)) (p2 : Int32) (p3 : Int32) : Option (Int32 × (Nat → Int32) × (Nat → Int32) × (Nat → Int32)) :=
  if p2 ≤ 0 then
    fX6_findOne_J24 N Tn Ta Rn Ra Rb Rd p2 p3
  else
    bn (fX2_letter N Tn Ta (p2 - (1 : Int32))) (fun v8 =>
      bn (fX2_letter N Tn Ta ((p2 - (1 : Int32)) + p3)) (fun v17 =>
        if v8 = v17 then
          some (Rn, Ra, Rb, Rd)
        else
          fX6_findOne_J24 N Tn Ta Rn Ra Rb Rd p2 p3))
def fX6_find_J48 (N : Nat) (Tn : Int32) (Ta : (Nat → Int32)) (Rn : Int32) (Ra : (Nat → Int32)) (Rb : (Nat → Int32)) (Rd : (Nat → Int32)) : Option (Int32 × (Nat → Int32) × (Nat → Int32) × (Nat → Int32)) :=
  some (Rn, Ra, Rb, Rd)
def fX6_find_J42 (N : Nat) (Tn : Int32) (Ta : (Nat → Int32)) (k7 : Int32 → (Nat → Int32) → (Nat → Int32) → (Nat → Int32) → Int32 → Option (Int32 × (Nat → Int32) × (Nat → Int32) × (Nat → Int32))) (Rn : Int32) (Ra : (Nat → Int32)) (Rb : (Nat → Int32)) (Rd : (Nat → Int32)) (x2 : Int32) : Option (Int32 × (Nat → Int32) × (Nat → Int32) × (Nat → Int32)) :=
  k7 Rn Ra Rb Rd (x2 + 1)
def fX6_find_B17 (N : Nat) (Tn : Int32) (Ta : (Nat → Int32)) (k7 : Int32 → (Nat → Int32) → (Nat → Int32) → (Nat → Int32) → Int32 → Option (Int32 × (Nat → Int32) × (Nat → Int32) × (Nat → Int32))) (k17 : Int32 → (Nat → Int32) → (Nat → Int32) → (Nat → Int32) → Int32 → Int32 → Option (Int32 × (Nat → Int32) × (Nat → Int32) × (Nat → Int32))) (Rn : Int32) (Ra : (Nat → Int32)) (Rb : (Nat → Int32)) (Rd : (Nat → Int32)) (x2 : Int32) (x3 : Int32) : Option (Int32 × (Nat → Int32) × (Nat → Int32) × (Nat → Int32)) :=
  bn (fX2_count N Tn) (fun v23 =>
    if v23 < (x2 + ((2 : Int32) * x3)) then
      fX6_find_J42 N Tn Ta k7 Rn Ra Rb Rd x2
    else
      bn (fX6_findOne N Tn Ta Rn Ra Rb Rd x2 x3) (fun v33 =>
        k17 v33.1 v33.2.1 v33.2.2.1 v33.2.2.2 x2 (x3 + 1)))
def fX6_find_H17 (N : Nat) (Tn : Int32) (Ta : (Nat → Int32)) (k7 : Int32 → (Nat → Int32) → (Nat → Int32) → (Nat → Int32) → Int32 → Option (Int32 × (Nat → Int32) × (Nat → Int32) × (Nat → Int32))) : Nat → Int32 → (Nat → Int32) → (Nat → Int32) → (Nat → Int32) → Int32 → Int32 → Option (Int32 × (Nat → Int32) × (Nat → Int32) × (Nat → Int32))
  | 0, _, _, _, _, _, _ => none
  | n + 1, Rn, Ra, Rb, Rd, x2, x3 => fX6_find_B17 N Tn Ta k7 (fX6_find_H17 N Tn Ta k7 n) Rn Ra Rb Rd x2 x3
def fX6_find_B7 (N : Nat) (Tn : Int32) (Ta : (Nat → Int32)) (k7 : Int32 → (Nat → Int32) → (Nat → Int32) → (Nat → Int32) → Int32 → Option (Int32 × (Nat → Int32) × (Nat → Int32) × (Nat → Int32))) (Rn : Int32) (Ra : (Nat → Int32)) (Rb : (Nat → Int32)) (Rd : (Nat → Int32)) (x2 : Int32) : Option (Int32 × (Nat → Int32) × (Nat → Int32) × (Nat → Int32)) :=
  bn (fX2_count N Tn) (fun v9 =>
    if v9 ≤ x2 then
      fX6_find_J48 N Tn Ta Rn Ra Rb Rd
    else
      fX6_find_H17 N Tn Ta k7 N Rn Ra Rb Rd x2 (1 : Int32))
def fX6_find_H7 (N : Nat) (Tn : Int32) (Ta : (Nat → Int32)) : Nat → Int32 → (Nat → Int32) → (Nat → Int32) → (Nat → Int32) → Int32 → Option (Int32 × (Nat → Int32) × (Nat → Int32) × (Nat → Int32))
  | 0, _, _, _, _, _ => none
  | n + 1, Rn, Ra, Rb, Rd, x2 => fX6_find_B7 N Tn Ta (fX6_find_H7 N Tn Ta n) Rn Ra Rb Rd x2
def fX6_find (N : Nat) (Tn : Int32) (Ta : (Nat → Int32)) (Rn : Int32) (Ra : (Nat → Int32)) (Rb : (Nat → Int32)) (Rd : (Nat → Int32)) : Option (Int32 × (Nat → Int32) × (Nat → Int32) × (Nat → Int32)) :=
  fX6_find_H7 N Tn Ta N (0 : Int32) Ra Rb Rd (0 : Int32)
def fX6_count (N : Nat) (Rn : Int32) : Option Int32 :=
  some Rn
def fX8_runs (N : Nat) (Tn : Int32) (Ta : (Nat → Int32)) (Rn : Int32) (Ra : (Nat → Int32)) (Rb : (Nat → Int32)) (Rd : (Nat → Int32)) : Option (Int32 × Int32 × (Nat → Int32) × (Nat → Int32) × (Nat → Int32)) :=
  bn (fX6_find N Tn Ta Rn Ra Rb Rd) (fun v8 =>
    bn (fX6_count N v8.1) (fun v15 =>
      some (v15, v8.1, v8.2.1, v8.2.2.1, v8.2.2.2)))
def fX8_findRun (N : Nat) (Tn : Int32) (Ta : (Nat → Int32)) (Rn : Int32) (Ra : (Nat → Int32)) (Rb : (Nat → Int32)) (Rd : (Nat → Int32)) (p1 : Int32) : Option ((Nat × Int32 × (Nat → Int32) × (Nat → Int32) × (Nat → Int32)) ⊕ (Int32 × (Nat → Int32) × (Nat → Int32) × (Nat → Int32))) :=
  bn (fX6_find N Tn Ta Rn Ra Rb Rd) (fun v8 =>
    bn (fX6_count N v8.1) (fun v16 =>
      bx (fX8_checkIndex N p1 v16) (fun z19 => some (.inl (z19, v8.1, v8.2.1, v8.2.2.1, v8.2.2.2))) (fun v19 =>
        some (.inr (v8.1, v8.2.1, v8.2.2.1, v8.2.2.2)))))
def fX6_start (N : Nat) (Rn : Int32) (Ra : (Nat → Int32)) (p1 : Int32) : Option Int32 :=
  bn (fX8_at N 64 Ra p1) (fun v5 =>
    some v5)
def fX8_runStart (N : Nat) (Tn : Int32) (Ta : (Nat → Int32)) (Rn : Int32) (Ra : (Nat → Int32)) (Rb : (Nat → Int32)) (Rd : (Nat → Int32)) (p1 : Int32) : Option ((Nat × Int32 × (Nat → Int32) × (Nat → Int32) × (Nat → Int32)) ⊕ (Int32 × Int32 × (Nat → Int32) × (Nat → Int32) × (Nat → Int32))) :=
  bx (fX8_findRun N Tn Ta Rn Ra Rb Rd p1) (fun z2 => some (.inl (z2.1, z2.2.1, z2.2.2.1, z2.2.2.2.1, z2.2.2.2.2))) (fun v2 =>
    bn (fX6_start N v2.1 v2.2.1 p1) (fun v10 =>
      some (.inr (v10, v2.1, v2.2.1, v2.2.2.1, v2.2.2.2))))
def fX6_end (N : Nat) (Rn : Int32) (Rb : (Nat → Int32)) (p1 : Int32) : Option Int32 :=
  bn (fX8_at N 64 Rb p1) (fun v5 =>
    some v5)
def fX8_runEnd (N : Nat) (Tn : Int32) (Ta : (Nat → Int32)) (Rn : Int32) (Ra : (Nat → Int32)) (Rb : (Nat → Int32)) (Rd : (Nat → Int32)) (p1 : Int32) : Option ((Nat × Int32 × (Nat → Int32) × (Nat → Int32) × (Nat → Int32)) ⊕ (Int32 × Int32 × (Nat → Int32) × (Nat → Int32) × (Nat → Int32))) :=
  bx (fX8_findRun N Tn Ta Rn Ra Rb Rd p1) (fun z2 => some (.inl (z2.1, z2.2.1, z2.2.2.1, z2.2.2.2.1, z2.2.2.2.2))) (fun v2 =>
    bn (fX6_end N v2.1 v2.2.2.1 p1) (fun v10 =>
      some (.inr (v10, v2.1, v2.2.1, v2.2.2.1, v2.2.2.2))))
def fX6_leastPeriod (N : Nat) (Rn : Int32) (Rd : (Nat → Int32)) (p1 : Int32) : Option Int32 :=
  bn (fX8_at N 64 Rd p1) (fun v5 =>
    some v5)
def fX8_runPeriod (N : Nat) (Tn : Int32) (Ta : (Nat → Int32)) (Rn : Int32) (Ra : (Nat → Int32)) (Rb : (Nat → Int32)) (Rd : (Nat → Int32)) (p1 : Int32) : Option ((Nat × Int32 × (Nat → Int32) × (Nat → Int32) × (Nat → Int32)) ⊕ (Int32 × Int32 × (Nat → Int32) × (Nat → Int32) × (Nat → Int32))) :=
  bx (fX8_findRun N Tn Ta Rn Ra Rb Rd p1) (fun z2 => some (.inl (z2.1, z2.2.1, z2.2.2.1, z2.2.2.2.1, z2.2.2.2.2))) (fun v2 =>
    bn (fX6_leastPeriod N v2.1 v2.2.2.2 p1) (fun v10 =>
      some (.inr (v10, v2.1, v2.2.1, v2.2.2.1, v2.2.2.2))))
def fX8_runsOver_J70 (N : Nat) (Tn : Int32) (Ta : (Nat → Int32)) (Rn : Int32) (Ra : (Nat → Int32)) (Rb : (Nat → Int32)) (Rd : (Nat → Int32)) (x2 : Int32) : Option ((Nat × Int32 × (Nat → Int32) × (Nat → Int32) × (Nat → Int32)) ⊕ (Int32 × Int32 × (Nat → Int32) × (Nat → Int32) × (Nat → Int32))) :=
  some (.inr (x2, Rn, Ra, Rb, Rd))
def fX8_runsOver_J64 (N : Nat) (Tn : Int32) (Ta : (Nat → Int32)) (k26 : Int32 → (Nat → Int32) → (Nat → Int32) → (Nat → Int32) → Int32 → Int32 → Int32 → Option ((Nat × Int32 × (Nat → Int32) × (Nat → Int32) × (Nat → Int32)) ⊕ (Int32 × Int32 × (Nat → Int32) × (Nat → Int32) × (Nat → Int32)))) (Rn : Int32) (Ra : (Nat → Int32)) (Rb : (Nat → Int32)) (Rd : (Nat → Int32)) (x1 : Int32) (x2 : Int32) (x3 : Int32) : Option ((Nat × Int32 × (Nat → Int32) × (Nat → Int32) × (Nat → Int32)) ⊕ (Int32 × Int32 × (Nat → Int32) × (Nat → Int32) × (Nat → Int32))) :=
  k26 Rn Ra Rb Rd x1 x2 (x3 + 1)
def fX8_runsOver_B26 (N : Nat) (Tn : Int32) (Ta : (Nat → Int32)) (k26 : Int32 → (Nat → Int32) → (Nat → Int32) → (Nat → Int32) → Int32 → Int32 → Int32 → Option ((Nat × Int32 × (Nat → Int32) × (Nat → Int32) × (Nat → Int32)) ⊕ (Int32 × Int32 × (Nat → Int32) × (Nat → Int32) × (Nat → Int32)))) (Rn : Int32) (Ra : (Nat → Int32)) (Rb : (Nat → Int32)) (Rd : (Nat → Int32)) (x1 : Int32) (x2 : Int32) (x3 : Int32) : Option ((Nat × Int32 × (Nat → Int32) × (Nat → Int32) × (Nat → Int32)) ⊕ (Int32 × Int32 × (Nat → Int32) × (Nat → Int32) × (Nat → Int32))) :=
  bn (fX6_count N Rn) (fun v31 =>
    if v31 ≤ x3 then
      fX8_runsOver_J70 N Tn Ta Rn Ra Rb Rd x2
    else
      bn (fX6_start N Rn Ra x3) (fun v42 =>
        if x1 < v42 then
          fX8_runsOver_J64 N Tn Ta k26 Rn Ra Rb Rd x1 x2 x3
        else
          bn (fX6_end N Rn Rb x3) (fun v55 =>
            if v55 ≤ x1 then
              fX8_runsOver_J64 N Tn Ta k26 Rn Ra Rb Rd x1 x2 x3
            else
              fX8_runsOver_J64 N Tn Ta k26 Rn Ra Rb Rd x1 (x2 + 1) x3)))
def fX8_runsOver_H26 (N : Nat) (Tn : Int32) (Ta : (Nat → Int32)) : Nat → Int32 → (Nat → Int32) → (Nat → Int32) → (Nat → Int32) → Int32 → Int32 → Int32 → Option ((Nat × Int32 × (Nat → Int32) × (Nat → Int32) × (Nat → Int32)) ⊕ (Int32 × Int32 × (Nat → Int32) × (Nat → Int32) × (Nat → Int32)))
  | 0, _, _, _, _, _, _, _ => none
  | n + 1, Rn, Ra, Rb, Rd, x1, x2, x3 => fX8_runsOver_B26 N Tn Ta (fX8_runsOver_H26 N Tn Ta n) Rn Ra Rb Rd x1 x2 x3
def fX8_runsOver (N : Nat) (Tn : Int32) (Ta : (Nat → Int32)) (Rn : Int32) (Ra : (Nat → Int32)) (Rb : (Nat → Int32)) (Rd : (Nat → Int32)) (p1 : Int32) : Option ((Nat × Int32 × (Nat → Int32) × (Nat → Int32) × (Nat → Int32)) ⊕ (Int32 × Int32 × (Nat → Int32) × (Nat → Int32) × (Nat → Int32))) :=
  bn (fX2_count N Tn) (fun v5 =>
    bx (fX8_checkIndex N p1 v5) (fun z8 => some (.inl (z8, Rn, Ra, Rb, Rd))) (fun v8 =>
      bn (fX6_find N Tn Ta Rn Ra Rb Rd) (fun v19 =>
        fX8_runsOver_H26 N Tn Ta N v19.1 v19.2.1 v19.2.2.1 v19.2.2.2 p1 (0 : Int32) (0 : Int32))))
def fX6_size (N : Nat) (Rn : Int32) (Ra : (Nat → Int32)) (Rb : (Nat → Int32)) (p1 : Int32) : Option Int32 :=
  bn (fX8_at N 64 Rb p1) (fun v5 =>
    bn (fX8_at N 64 Ra p1) (fun v13 =>
      some (v5 - v13)))
def fX8_exponentsOfRuns_J54 (N : Nat) (Tn : Int32) (Ta : (Nat → Int32)) (Rn : Int32) (Ra : (Nat → Int32)) (Rb : (Nat → Int32)) (Rd : (Nat → Int32)) (x1 : UInt64) : Option (UInt64 × Int32 × (Nat → Int32) × (Nat → Int32) × (Nat → Int32)) :=
  some (x1, Rn, Ra, Rb, Rd)
def fX8_exponentsOfRuns_B15 (N : Nat) (Tn : Int32) (Ta : (Nat → Int32)) (k15 : Int32 → (Nat → Int32) → (Nat → Int32) → (Nat → Int32) → UInt64 → Int32 → Option (UInt64 × Int32 × (Nat → Int32) × (Nat → Int32) × (Nat → Int32))) (Rn : Int32) (Ra : (Nat → Int32)) (Rb : (Nat → Int32)) (Rd : (Nat → Int32)) (x1 : UInt64) (x3 : Int32) : Option (UInt64 × Int32 × (Nat → Int32) × (Nat → Int32) × (Nat → Int32)) :=
  bn (fX6_count N Rn) (fun v20 =>
    if v20 ≤ x3 then
      fX8_exponentsOfRuns_J54 N Tn Ta Rn Ra Rb Rd x1
    else
      bn (fX6_size N Rn Ra Rb x3) (fun v32 =>
        bn (fX6_leastPeriod N Rn Rd x3) (fun v40 =>
          bn (fX8_quotient N v32 v40) (fun v43 =>
            gd (nonan (FP.dadd x1 v43)) (
              k15 Rn Ra Rb Rd (FP.dadd x1 v43) (x3 + 1))))))
def fX8_exponentsOfRuns_H15 (N : Nat) (Tn : Int32) (Ta : (Nat → Int32)) : Nat → Int32 → (Nat → Int32) → (Nat → Int32) → (Nat → Int32) → UInt64 → Int32 → Option (UInt64 × Int32 × (Nat → Int32) × (Nat → Int32) × (Nat → Int32))
  | 0, _, _, _, _, _, _ => none
  | n + 1, Rn, Ra, Rb, Rd, x1, x3 => fX8_exponentsOfRuns_B15 N Tn Ta (fX8_exponentsOfRuns_H15 N Tn Ta n) Rn Ra Rb Rd x1 x3
def fX8_exponentsOfRuns (N : Nat) (Tn : Int32) (Ta : (Nat → Int32)) (Rn : Int32) (Ra : (Nat → Int32)) (Rb : (Nat → Int32)) (Rd : (Nat → Int32)) : Option (UInt64 × Int32 × (Nat → Int32) × (Nat → Int32) × (Nat → Int32)) :=
  bn (fX6_find N Tn Ta Rn Ra Rb Rd) (fun v8 =>
    fX8_exponentsOfRuns_H15 N Tn Ta N v8.1 v8.2.1 v8.2.2.1 v8.2.2.2 FP.dconst0 (0 : Int32))
def fX8_squares_J56 (N : Nat) (Tn : Int32) (Ta : (Nat → Int32)) (Rn : Int32) (Ra : (Nat → Int32)) (Rb : (Nat → Int32)) (Rd : (Nat → Int32)) (x1 : Int32) : Option (Int32 × Int32 × (Nat → Int32) × (Nat → Int32) × (Nat → Int32)) :=
  some (x1, Rn, Ra, Rb, Rd)
def fX8_squares_B15 (N : Nat) (Tn : Int32) (Ta : (Nat → Int32)) (k15 : Int32 → (Nat → Int32) → (Nat → Int32) → (Nat → Int32) → Int32 → Int32 → Option (Int32 × Int32 × (Nat → Int32) × (Nat → Int32) × (Nat → Int32))) (Rn : Int32) (Ra : (Nat → Int32)) (Rb : (Nat → Int32)) (Rd : (Nat → Int32)) (x1 : Int32) (x2 : Int32) : Option (Int32 × Int32 × (Nat → Int32) × (Nat → Int32) × (Nat → Int32)) :=
  bn (fX6_count N Rn) (fun v20 =>
    if v20 ≤ x2 then
      fX8_squares_J56 N Tn Ta Rn Ra Rb Rd x1
    else
      bn (fX6_size N Rn Ra Rb x2) (fun v32 =>
        bn (fX6_leastPeriod N Rn Rd x2) (fun v41 =>
          k15 Rn Ra Rb Rd (x1 + ((v32 - ((2 : Int32) * v41)) + (1 : Int32))) (x2 + 1))))
def fX8_squares_H15 (N : Nat) (Tn : Int32) (Ta : (Nat → Int32)) : Nat → Int32 → (Nat → Int32) → (Nat → Int32) → (Nat → Int32) → Int32 → Int32 → Option (Int32 × Int32 × (Nat → Int32) × (Nat → Int32) × (Nat → Int32))
  | 0, _, _, _, _, _, _ => none
  | n + 1, Rn, Ra, Rb, Rd, x1, x2 => fX8_squares_B15 N Tn Ta (fX8_squares_H15 N Tn Ta n) Rn Ra Rb Rd x1 x2
def fX8_squares (N : Nat) (Tn : Int32) (Ta : (Nat → Int32)) (Rn : Int32) (Ra : (Nat → Int32)) (Rb : (Nat → Int32)) (Rd : (Nat → Int32)) : Option (Int32 × Int32 × (Nat → Int32) × (Nat → Int32) × (Nat → Int32)) :=
  bn (fX6_find N Tn Ta Rn Ra Rb Rd) (fun v8 =>
    fX8_squares_H15 N Tn Ta N v8.1 v8.2.1 v8.2.2.1 v8.2.2.2 (0 : Int32) (0 : Int32))
def fX7_isLess_J59 (N : Nat) (Tn : Int32) (Ta : (Nat → Int32)) (Ua : (Nat → Int32)) (y0 : Int32) : Option Int32 :=
  gd (isB y0) (some y0)
def fX7_isLess (N : Nat) (Tn : Int32) (Ta : (Nat → Int32)) (Ua : (Nat → Int32)) (p2 : Int32) (p3 : Int32) : Option Int32 :=
  bn (fX2_letter N Tn Ta p2) (fun v2 =>
    bn (fX2_letter N Tn Ta p3) (fun v7 =>
      if (v2 - v7) = 0 then
        bn (fX8_at N 65 Ua (p2 + (1 : Int32))) (fun v38 =>
          bn (fX8_at N 65 Ua (p3 + (1 : Int32))) (fun v48 =>
            if v48 ≤ v38 then
              fX7_isLess_J59 N Tn Ta Ua (0 : Int32)
            else
              fX7_isLess_J59 N Tn Ta Ua (1 : Int32)))
      else
        if 0 ≤ (v2 - v7) then
          fX7_isLess_J59 N Tn Ta Ua (0 : Int32)
        else
          fX7_isLess_J59 N Tn Ta Ua (1 : Int32)))
def fX7_putInOrder_J89 (N : Nat) (Tn : Int32) (Ta : (Nat → Int32)) (Ua : (Nat → Int32)) (x2 : Int32) (x3 : Int32) : Option (Nat → Int32) :=
  bn (fX8_put N 65 Ua x2 x3) (fun v95 =>
    some v95)
def fX7_putInOrder_J83 (N : Nat) (Tn : Int32) (Ta : (Nat → Int32)) (k41 : (Nat → Int32) → Int32 → Int32 → Int32 → Option (Nat → Int32)) (Ua : (Nat → Int32)) (x2 : Int32) (x3 : Int32) (x4 : Int32) : Option (Nat → Int32) :=
  k41 Ua x2 x3 (x4 + 1)
def fX7_putInOrder_B41 (N : Nat) (Tn : Int32) (Ta : (Nat → Int32)) (k41 : (Nat → Int32) → Int32 → Int32 → Int32 → Option (Nat → Int32)) (Ua : (Nat → Int32)) (x2 : Int32) (x3 : Int32) (x4 : Int32) : Option (Nat → Int32) :=
  bn (fX2_count N Tn) (fun v44 =>
    if v44 ≤ x4 then
      fX7_putInOrder_J89 N Tn Ta Ua x2 x3
    else
      bn (fX8_at N 65 Ua x4) (fun v56 =>
        if v56 < x3 then
          fX7_putInOrder_J83 N Tn Ta k41 Ua x2 x3 x4
        else
          bn (fX8_at N 65 Ua x4) (fun v75 =>
            bn (fX8_put N 65 Ua x4 (v75 + (1 : Int32))) (fun v80 =>
              fX7_putInOrder_J83 N Tn Ta k41 v80 x2 x3 x4))))
def fX7_putInOrder_H41 (N : Nat) (Tn : Int32) (Ta : (Nat → Int32)) : Nat → (Nat → Int32) → Int32 → Int32 → Int32 → Option (Nat → Int32)
  | 0, _, _, _, _ => none
  | n + 1, Ua, x2, x3, x4 => fX7_putInOrder_B41 N Tn Ta (fX7_putInOrder_H41 N Tn Ta n) Ua x2 x3 x4
def fX7_putInOrder_J36 (N : Nat) (Tn : Int32) (Ta : (Nat → Int32)) (Ua : (Nat → Int32)) (x2 : Int32) (x3 : Int32) : Option (Nat → Int32) :=
  fX7_putInOrder_H41 N Tn Ta N Ua x2 x3 (x2 + (1 : Int32))
def fX7_putInOrder_J30 (N : Nat) (Tn : Int32) (Ta : (Nat → Int32)) (k7 : (Nat → Int32) → Int32 → Int32 → Int32 → Option (Nat → Int32)) (Ua : (Nat → Int32)) (x2 : Int32) (x3 : Int32) (x4 : Int32) : Option (Nat → Int32) :=
  k7 Ua x2 x3 (x4 + 1)
def fX7_putInOrder_B7 (N : Nat) (Tn : Int32) (Ta : (Nat → Int32)) (k7 : (Nat → Int32) → Int32 → Int32 → Int32 → Option (Nat → Int32)) (Ua : (Nat → Int32)) (x2 : Int32) (x3 : Int32) (x4 : Int32) : Option (Nat → Int32) :=
  bn (fX2_count N Tn) (fun v10 =>
    if v10 ≤ x4 then
      fX7_putInOrder_J36 N Tn Ta Ua x2 x3
    else
      bn (fX7_isLess N Tn Ta Ua x4 x2) (fun v21 =>
        if v21 = 0 then
          fX7_putInOrder_J30 N Tn Ta k7 Ua x2 x3 x4
        else
          fX7_putInOrder_J30 N Tn Ta k7 Ua x2 (x3 + 1) x4))
def fX7_putInOrder_H7 (N : Nat) (Tn : Int32) (Ta : (Nat → Int32)) : Nat → (Nat → Int32) → Int32 → Int32 → Int32 → Option (Nat → Int32)
  | 0, _, _, _, _ => none
  | n + 1, Ua, x2, x3, x4 => fX7_putInOrder_B7 N Tn Ta (fX7_putInOrder_H7 N Tn Ta n) Ua x2 x3 x4
def fX7_putInOrder (N : Nat) (Tn : Int32) (Ta : (Nat → Int32)) (Ua : (Nat → Int32)) (p2 : Int32) : Option (Nat → Int32) :=
  fX7_putInOrder_H7 N Tn Ta N Ua p2 (0 : Int32) (p2 + (1 : Int32))
def fX7_find_J35 (N : Nat) (Tn : Int32) (Ta : (Nat → Int32)) (Ua : (Nat → Int32)) : Option (Nat → Int32) :=
  some Ua
def fX7_find_B19 (N : Nat) (Tn : Int32) (Ta : (Nat → Int32)) (k19 : (Nat → Int32) → Int32 → Option (Nat → Int32)) (Ua : (Nat → Int32)) (x2 : Int32) : Option (Nat → Int32) :=
  if x2 < 0 then
    fX7_find_J35 N Tn Ta Ua
  else
    bn (fX7_putInOrder N Tn Ta Ua x2) (fun v26 =>
      k19 v26 (x2 + (-1 : Int32)))
def fX7_find_H19 (N : Nat) (Tn : Int32) (Ta : (Nat → Int32)) : Nat → (Nat → Int32) → Int32 → Option (Nat → Int32)
  | 0, _, _ => none
  | n + 1, Ua, x2 => fX7_find_B19 N Tn Ta (fX7_find_H19 N Tn Ta n) Ua x2
def fX7_find (N : Nat) (Tn : Int32) (Ta : (Nat → Int32)) (Ua : (Nat → Int32)) : Option (Nat → Int32) :=
  bn (fX2_count N Tn) (fun v5 =>
    bn (fX8_put N 65 Ua v5 (-1 : Int32)) (fun v9 =>
      bn (fX2_count N Tn) (fun v13 =>
        fX7_find_H19 N Tn Ta N v9 (v13 - (1 : Int32)))))
def fX7_rank (N : Nat) (Ua : (Nat → Int32)) (p1 : Int32) : Option Int32 :=
  bn (fX8_at N 65 Ua p1) (fun v5 =>
    some v5)
def fX8_suffixAt_J55 (N : Nat) (Tn : Int32) (Ta : (Nat → Int32)) (Ua : (Nat → Int32)) (x2 : Int32) : Option ((Nat × (Nat → Int32)) ⊕ (Int32 × (Nat → Int32))) :=
  some (.inr (x2, Ua))
def fX8_suffixAt_B24 (N : Nat) (Tn : Int32) (Ta : (Nat → Int32)) (k24 : (Nat → Int32) → Int32 → Int32 → Option ((Nat × (Nat → Int32)) ⊕ (Int32 × (Nat → Int32)))) (Ua : (Nat → Int32)) (x1 : Int32) (x2 : Int32) : Option ((Nat × (Nat → Int32)) ⊕ (Int32 × (Nat → Int32))) :=
  bn (fX2_count N Tn) (fun v29 =>
    if (v29 - (1 : Int32)) ≤ x2 then
      fX8_suffixAt_J55 N Tn Ta Ua x2
    else
      bn (fX7_rank N Ua x2) (fun v42 =>
        if v42 = x1 then
          fX8_suffixAt_J55 N Tn Ta Ua x2
        else
          k24 Ua x1 (x2 + 1)))
def fX8_suffixAt_H24 (N : Nat) (Tn : Int32) (Ta : (Nat → Int32)) : Nat → (Nat → Int32) → Int32 → Int32 → Option ((Nat × (Nat → Int32)) ⊕ (Int32 × (Nat → Int32)))
  | 0, _, _, _ => none
  | n + 1, Ua, x1, x2 => fX8_suffixAt_B24 N Tn Ta (fX8_suffixAt_H24 N Tn Ta n) Ua x1 x2
def fX8_suffixAt (N : Nat) (Tn : Int32) (Ta : (Nat → Int32)) (Ua : (Nat → Int32)) (p1 : Int32) : Option ((Nat × (Nat → Int32)) ⊕ (Int32 × (Nat → Int32))) :=
  bn (fX2_count N Tn) (fun v5 =>
    bx (fX8_checkIndex N p1 v5) (fun z8 => some (.inl (z8, Ua))) (fun v8 =>
      bn (fX7_find N Tn Ta Ua) (fun v19 =>
        fX8_suffixAt_H24 N Tn Ta N v19 p1 (0 : Int32))))
def fX8_rankOf (N : Nat) (Tn : Int32) (Ta : (Nat → Int32)) (Ua : (Nat → Int32)) (p1 : Int32) : Option ((Nat × (Nat → Int32)) ⊕ (Int32 × (Nat → Int32))) :=
  bn (fX2_count N Tn) (fun v5 =>
    bx (fX8_checkIndex N p1 v5) (fun z8 => some (.inl (z8, Ua))) (fun v8 =>
      bn (fX7_find N Tn Ta Ua) (fun v19 =>
        bn (fX7_rank N v19 p1) (fun v27 =>
          some (.inr (v27, v19))))))
def fX8_necklaces (N : Nat) (p1 : Int32) (p2 : Int32) : Option (Nat ⊕ Int64) :=
  bx (fX8_checkArgument N p1 (1 : Int32) (10 : Int32)) (fun z4 => some (.inl z4)) (fun v4 =>
    bx (fX8_checkArgument N p2 (1 : Int32) (12 : Int32)) (fun z11 => some (.inl z11)) (fun v11 =>
      bn (fX4_necklaceCount N p1 p2) (fun v16 =>
        some (.inr v16))))
def fX8_lyndonWords (N : Nat) (p1 : Int32) (p2 : Int32) : Option (Nat ⊕ Int64) :=
  bx (fX8_checkArgument N p1 (1 : Int32) (10 : Int32)) (fun z4 => some (.inl z4)) (fun v4 =>
    bx (fX8_checkArgument N p2 (1 : Int32) (12 : Int32)) (fun z11 => some (.inl z11)) (fun v11 =>
      bn (fX4_lyndonCount N p1 p2) (fun v16 =>
        some (.inr v16))))
def fX2_greatestLetter_J31 (N : Nat) (Tn : Int32) (Ta : (Nat → Int32)) (x3 : Int32) : Option Int32 :=
  some x3
def fX2_greatestLetter_B5 (N : Nat) (Tn : Int32) (Ta : (Nat → Int32)) (k5 : Int32 → Int32 → Int32 → Option Int32) (x2 : Int32) (x3 : Int32) (x4 : Int32) : Option Int32 :=
  if x2 ≤ x4 then
    fX2_greatestLetter_J31 N Tn Ta x3
  else
    bn (fX8_at N 64 Ta x4) (fun v18 =>
      k5 x2 (if x3 < v18 then v18 else x3) (x4 + 1))
def fX2_greatestLetter_H5 (N : Nat) (Tn : Int32) (Ta : (Nat → Int32)) : Nat → Int32 → Int32 → Int32 → Option Int32
  | 0, _, _, _ => none
  | n + 1, x2, x3, x4 => fX2_greatestLetter_B5 N Tn Ta (fX2_greatestLetter_H5 N Tn Ta n) x2 x3 x4
def fX2_greatestLetter (N : Nat) (Tn : Int32) (Ta : (Nat → Int32)) (p1 : Int32) (p2 : Int32) : Option Int32 :=
  fX2_greatestLetter_H5 N Tn Ta N p2 (0 : Int32) p1
def fX8_packedLeastRotation_J50 (N : Nat) (Tn : Int32) (Ta : (Nat → Int32)) (x4 : Int32) : Option Int32 :=
  some x4
def fX8_packedLeastRotation_B16 (N : Nat) (Tn : Int32) (Ta : (Nat → Int32)) (k16 : Int32 → Int32 → Int32 → Int32 → Int32 → Option Int32) (x1 : Int32) (x2 : Int32) (x3 : Int32) (x4 : Int32) (x5 : Int32) : Option Int32 :=
  if (x2 - x1) ≤ x5 then
    fX8_packedLeastRotation_J50 N Tn Ta x4
  else
    bn (fX5_letter N Tn Ta x1 x2 (x3 + x5)) (fun v36 =>
      bn (fX3_pack N x4 v36) (fun v39 =>
        k16 x1 x2 x3 v39 (x5 + 1)))
def fX8_packedLeastRotation_H16 (N : Nat) (Tn : Int32) (Ta : (Nat → Int32)) : Nat → Int32 → Int32 → Int32 → Int32 → Int32 → Option Int32
  | 0, _, _, _, _, _ => none
  | n + 1, x1, x2, x3, x4, x5 => fX8_packedLeastRotation_B16 N Tn Ta (fX8_packedLeastRotation_H16 N Tn Ta n) x1 x2 x3 x4 x5
def fX8_packedLeastRotation (N : Nat) (Tn : Int32) (Ta : (Nat → Int32)) (p1 : Int32) (p2 : Int32) : Option Int32 :=
  bn (fX5_least N Tn Ta p1 p2) (fun v6 =>
    fX8_packedLeastRotation_H16 N Tn Ta N p1 p2 v6 (0 : Int32) (0 : Int32))
def fX3_countAhead_J29 (N : Nat) (Wg : Int32) (Wz : Int32) (Ww : Int32) (Wr : Int32) (x2 : Int32) : Option (Int32 × Int32 × Int32) :=
  some (x2, Ww, Wr)
def fX3_countAhead_B2 (N : Nat) (Wg : Int32) (Wz : Int32) (k2 : Int32 → Int32 → Int32 → Int32 → Option (Int32 × Int32 × Int32)) (Ww : Int32) (Wr : Int32) (x1 : Int32) (x2 : Int32) : Option (Int32 × Int32 × Int32) :=
  if (1048576 : Int32) ≤ x2 then
    fX3_countAhead_J29 N Wg Wz Ww Wr x2
  else
    if x1 ≤ Ww then
      fX3_countAhead_J29 N Wg Wz Ww Wr x2
    else
      bn (fX3_toNextNecklace N Wg Wz Ww Wr) (fun v17 =>
        if v17.1 = 0 then
          fX3_countAhead_J29 N Wg Wz v17.2.1 v17.2.2 x2
        else
          k2 v17.2.1 v17.2.2 x1 (x2 + 1))
def fX3_countAhead_H2 (N : Nat) (Wg : Int32) (Wz : Int32) : Nat → Int32 → Int32 → Int32 → Int32 → Option (Int32 × Int32 × Int32)
  | 0, _, _, _, _ => none
  | n + 1, Ww, Wr, x1, x2 => fX3_countAhead_B2 N Wg Wz (fX3_countAhead_H2 N Wg Wz n) Ww Wr x1 x2
def fX3_countAhead (N : Nat) (Wg : Int32) (Wz : Int32) (Ww : Int32) (Wr : Int32) (p1 : Int32) : Option (Int32 × Int32 × Int32) :=
  fX3_countAhead_H2 N Wg Wz N Ww Wr p1 (0 : Int32)
def fX8_necklaceNumber_J33 (N : Nat) (Tn : Int32) (Ta : (Nat → Int32)) (Wg : Int32) (Wz : Int32) (Ww : Int32) (Wr : Int32) : Option ((Nat × Int32 × Int32 × Int32 × Int32) ⊕ (Int32 × Int32 × Int32 × Int32 × Int32)) :=
  some (.inl (2, Wg, Wz, Ww, Wr))
def fX8_necklaceNumber (N : Nat) (Tn : Int32) (Ta : (Nat → Int32)) (Wg : Int32) (Wz : Int32) (Ww : Int32) (Wr : Int32) (p1 : Int32) (p2 : Int32) (p3 : Int32) : Option ((Nat × Int32 × Int32 × Int32 × Int32) ⊕ (Int32 × Int32 × Int32 × Int32 × Int32)) :=
  bx (fX8_checkPart N Tn p1 p2) (fun z3 => some (.inl (z3, Wg, Wz, Ww, Wr))) (fun v3 =>
    bx (fX8_checkArgument N p3 (1 : Int32) (4 : Int32)) (fun z9 => some (.inl (z9, Wg, Wz, Ww, Wr))) (fun v9 =>
      if (8 : Int32) < (p2 - p1) then
        fX8_necklaceNumber_J33 N Tn Ta Wg Wz Ww Wr
      else
        bn (fX2_greatestLetter N Tn Ta p1 p2) (fun v26 =>
          if v26 < p3 then
            bn (fX3_begin N Wg Wz Ww Wr p3 (p2 - p1)) (fun v51 =>
              bn (fX8_packedLeastRotation N Tn Ta p1 p2) (fun v61 =>
                bn (fX3_countAhead N v51.1 v51.2.1 v51.2.2.1 v51.2.2.2 v61) (fun v64 =>
                  some (.inr (v64.1, v51.1, v51.2.1, v64.2.1, v64.2.2)))))
          else
            fX8_necklaceNumber_J33 N Tn Ta Wg Wz Ww Wr)))
def fX9_thrown (N : Nat) (Mh : Int32) (Mn : Int32) (Mm : Int32) : Option Int32 :=
  some Mh
def fX9_goesWell_J14 (N : Nat) (Mn : Int32) (Mm : Int32) (Mh : Int32) (y0 : Int32) : Option (Int32 × Int32) :=
  gd (isB y0) (some (y0, Mh))
def fX9_goesWell (N : Nat) (Mh : Int32) (Mn : Int32) (Mm : Int32) (p1 : Int32) : Option (Int32 × Int32) :=
  if p1 = 0 then
    fX9_goesWell_J14 N Mn Mm p1 (1 : Int32)
  else
    fX9_goesWell_J14 N Mn Mm p1 (0 : Int32)
def fX9_in_J15 (N : Nat) (y0 : Int32) : Option Int32 :=
  gd (isB y0) (some y0)
def fX9_in_J14 (N : Nat) : Option Int32 :=
  fX9_in_J15 N (0 : Int32)
def fX9_in (N : Nat) (p0 : Int32) (p1 : Int32) (p2 : Int32) : Option Int32 :=
  if p0 < p1 then
    fX9_in_J14 N
  else
    if p2 < p0 then
      fX9_in_J14 N
    else
      fX9_in_J15 N (1 : Int32)
def fX9_isPlace (N : Nat) (Mh : Int32) (Mn : Int32) (Mm : Int32) (p1 : Int32) : Option Int32 :=
  bn (fX9_in N p1 (0 : Int32) (Mn - (1 : Int32))) (fun v8 =>
    gd (isB v8) (some v8))
def fX9_isPart_J22 (N : Nat) (Mh : Int32) (Mn : Int32) (Mm : Int32) (y0 : Int32) : Option Int32 :=
  gd (isB y0) (some y0)
def fX9_isPart_J21 (N : Nat) (Mh : Int32) (Mn : Int32) (Mm : Int32) : Option Int32 :=
  fX9_isPart_J22 N Mh Mn Mm (0 : Int32)
def fX9_isPart (N : Nat) (Mh : Int32) (Mn : Int32) (Mm : Int32) (p1 : Int32) (p2 : Int32) : Option Int32 :=
  if p1 < 0 then
    fX9_isPart_J21 N Mh Mn Mm
  else
    if p2 ≤ p1 then
      fX9_isPart_J21 N Mh Mn Mm
    else
      if Mn < p2 then
        fX9_isPart_J21 N Mh Mn Mm
      else
        fX9_isPart_J22 N Mh Mn Mm (1 : Int32)
def fX9_append_J29 (N : Nat) (Mm : Int32) (Mh : Int32) (Mn : Int32) (Mt : (Nat → Int32)) (x1 : Int32) (y1 : Int32) : Option (Int32 × Int32 × Int32 × (Nat → Int32)) :=
  bn (fX9_goesWell N Mh Mn Mm y1) (fun v29 =>
    if v29.1 = 0 then
      some ((0 : Int32), v29.2, Mn, Mt)
    else
      gd (inb Mn 64) (
        some ((Mn + (1 : Int32)), v29.2, (Mn + (1 : Int32)), (upd Mt (Mn).toNatClampNeg x1))))
def fX9_append (N : Nat) (Mh : Int32) (Mn : Int32) (Mm : Int32) (Mt : (Nat → Int32)) (p1 : Int32) : Option (Int32 × Int32 × Int32 × (Nat → Int32)) :=
  bn (fX9_in N p1 (0 : Int32) (25 : Int32)) (fun v5 =>
    if v5 = 0 then
      fX9_append_J29 N Mm Mh Mn Mt p1 (1 : Int32)
    else
      if Mn = (64 : Int32) then
        fX9_append_J29 N Mm Mh Mn Mt p1 (2 : Int32)
      else
        fX9_append_J29 N Mm Mh Mn Mt p1 (0 : Int32))
def fX9_insert_J83 (N : Nat) (Mm : Int32) (Mh : Int32) (Mn : Int32) (Mt : (Nat → Int32)) (x1 : Int32) (x2 : Int32) : Option (Int32 × Int32 × Int32 × (Nat → Int32)) :=
  gd (inb x1 64) (
    some ((Mn + (1 : Int32)), Mh, (Mn + (1 : Int32)), (upd Mt (x1).toNatClampNeg x2)))
def fX9_insert_B58 (N : Nat) (Mm : Int32) (k58 : Int32 → Int32 → (Nat → Int32) → Int32 → Int32 → Int32 → Option (Int32 × Int32 × Int32 × (Nat → Int32))) (Mh : Int32) (Mn : Int32) (Mt : (Nat → Int32)) (x1 : Int32) (x2 : Int32) (x3 : Int32) : Option (Int32 × Int32 × Int32 × (Nat → Int32)) :=
  if x3 ≤ x1 then
    fX9_insert_J83 N Mm Mh Mn Mt x1 x2
  else
    gd (inb (x3 - (1 : Int32)) 64) (
      gd (inb x3 64) (
        k58 Mh Mn (upd Mt (x3).toNatClampNeg (Mt ((x3 - (1 : Int32))).toNatClampNeg)) x1 x2 (x3 + (-1 : Int32))))
def fX9_insert_H58 (N : Nat) (Mm : Int32) : Nat → Int32 → Int32 → (Nat → Int32) → Int32 → Int32 → Int32 → Option (Int32 × Int32 × Int32 × (Nat → Int32))
  | 0, _, _, _, _, _, _ => none
  | n + 1, Mh, Mn, Mt, x1, x2, x3 => fX9_insert_B58 N Mm (fX9_insert_H58 N Mm n) Mh Mn Mt x1 x2 x3
def fX9_insert_J45 (N : Nat) (Mm : Int32) (Mh : Int32) (Mn : Int32) (Mt : (Nat → Int32)) (x1 : Int32) (x2 : Int32) (y1 : Int32) : Option (Int32 × Int32 × Int32 × (Nat → Int32)) :=
  bn (fX9_goesWell N Mh Mn Mm y1) (fun v45 =>
    if v45.1 = 0 then
      some ((0 : Int32), v45.2, Mn, Mt)
    else
      fX9_insert_H58 N Mm N v45.2 Mn Mt x1 x2 Mn)
def fX9_insert (N : Nat) (Mh : Int32) (Mn : Int32) (Mm : Int32) (Mt : (Nat → Int32)) (p1 : Int32) (p2 : Int32) : Option (Int32 × Int32 × Int32 × (Nat → Int32)) :=
  bn (fX9_in N p1 (0 : Int32) Mn) (fun v7 =>
    if v7 = 0 then
      fX9_insert_J45 N Mm Mh Mn Mt p1 p2 (1 : Int32)
    else
      bn (fX9_in N p2 (0 : Int32) (25 : Int32)) (fun v21 =>
        if v21 = 0 then
          fX9_insert_J45 N Mm Mh Mn Mt p1 p2 (2 : Int32)
        else
          if Mn = (64 : Int32) then
            fX9_insert_J45 N Mm Mh Mn Mt p1 p2 (3 : Int32)
          else
            fX9_insert_J45 N Mm Mh Mn Mt p1 p2 (0 : Int32)))
def fX9_set_J28 (N : Nat) (Mn : Int32) (Mm : Int32) (Mh : Int32) (Mt : (Nat → Int32)) (x1 : Int32) (x2 : Int32) (y1 : Int32) : Option (Int32 × Int32 × (Nat → Int32)) :=
  bn (fX9_goesWell N Mh Mn Mm y1) (fun v28 =>
    if v28.1 = 0 then
      some ((0 : Int32), v28.2, Mt)
    else
      gd (inb x1 64) (
        gd (inb x1 64) (
          some ((Mt (x1).toNatClampNeg), v28.2, (upd Mt (x1).toNatClampNeg x2)))))
def fX9_set (N : Nat) (Mh : Int32) (Mn : Int32) (Mm : Int32) (Mt : (Nat → Int32)) (p1 : Int32) (p2 : Int32) : Option (Int32 × Int32 × (Nat → Int32)) :=
  bn (fX9_isPlace N Mh Mn Mm p1) (fun v3 =>
    if v3 = 0 then
      fX9_set_J28 N Mn Mm Mh Mt p1 p2 (1 : Int32)
    else
      bn (fX9_in N p2 (0 : Int32) (25 : Int32)) (fun v17 =>
        if v17 = 0 then
          fX9_set_J28 N Mn Mm Mh Mt p1 p2 (2 : Int32)
        else
          fX9_set_J28 N Mn Mm Mh Mt p1 p2 (0 : Int32)))
def fX9_remove_J69 (N : Nat) (Mm : Int32) (Mh : Int32) (Mn : Int32) (Mt : (Nat → Int32)) (x2 : Int32) : Option (Int32 × Int32 × Int32 × (Nat → Int32)) :=
  some (x2, Mh, Mn, Mt)
def fX9_remove_B41 (N : Nat) (Mm : Int32) (k41 : Int32 → Int32 → (Nat → Int32) → Int32 → Int32 → Option (Int32 × Int32 × Int32 × (Nat → Int32))) (Mh : Int32) (Mn : Int32) (Mt : (Nat → Int32)) (x2 : Int32) (x3 : Int32) : Option (Int32 × Int32 × Int32 × (Nat → Int32)) :=
  if Mn ≤ x3 then
    fX9_remove_J69 N Mm Mh Mn Mt x2
  else
    gd (inb (x3 + (1 : Int32)) 64) (
      gd (inb x3 64) (
        k41 Mh Mn (upd Mt (x3).toNatClampNeg (Mt ((x3 + (1 : Int32))).toNatClampNeg)) x2 (x3 + 1)))
def fX9_remove_H41 (N : Nat) (Mm : Int32) : Nat → Int32 → Int32 → (Nat → Int32) → Int32 → Int32 → Option (Int32 × Int32 × Int32 × (Nat → Int32))
  | 0, _, _, _, _, _ => none
  | n + 1, Mh, Mn, Mt, x2, x3 => fX9_remove_B41 N Mm (fX9_remove_H41 N Mm n) Mh Mn Mt x2 x3
def fX9_remove_J14 (N : Nat) (Mm : Int32) (Mh : Int32) (Mn : Int32) (Mt : (Nat → Int32)) (x1 : Int32) (y1 : Int32) : Option (Int32 × Int32 × Int32 × (Nat → Int32)) :=
  bn (fX9_goesWell N Mh Mn Mm y1) (fun v14 =>
    if v14.1 = 0 then
      some ((0 : Int32), v14.2, Mn, Mt)
    else
      gd (inb x1 64) (
        fX9_remove_H41 N Mm N v14.2 (Mn - (1 : Int32)) Mt (Mt (x1).toNatClampNeg) x1))
def fX9_remove (N : Nat) (Mh : Int32) (Mn : Int32) (Mm : Int32) (Mt : (Nat → Int32)) (p1 : Int32) : Option (Int32 × Int32 × Int32 × (Nat → Int32)) :=
  bn (fX9_isPlace N Mh Mn Mm p1) (fun v3 =>
    if v3 = 0 then
      fX9_remove_J14 N Mm Mh Mn Mt p1 (1 : Int32)
    else
      fX9_remove_J14 N Mm Mh Mn Mt p1 (0 : Int32))
def fX9_clear (N : Nat) (Mh : Int32) (Mn : Int32) (Mm : Int32) : Option (Int32 × Int32 × Int32) :=
  some (Mn, (0 : Int32), (0 : Int32))
def fX9_keep_J28 (N : Nat) (Mh : Int32) (Mn : Int32) (Mm : Int32) (Mt : (Nat → Int32)) (Mk : (Nat → Int32)) : Option (Nat → Int32) :=
  some Mk
def fX9_keep_B2 (N : Nat) (Mh : Int32) (Mn : Int32) (Mm : Int32) (Mt : (Nat → Int32)) (k2 : (Nat → Int32) → Int32 → Option (Nat → Int32)) (Mk : (Nat → Int32)) (x1 : Int32) : Option (Nat → Int32) :=
  if Mn ≤ x1 then
    fX9_keep_J28 N Mh Mn Mm Mt Mk
  else
    gd (inb x1 64) (
      gd (inb x1 64) (
        k2 (upd Mk (x1).toNatClampNeg (Mt (x1).toNatClampNeg)) (x1 + 1)))
def fX9_keep_H2 (N : Nat) (Mh : Int32) (Mn : Int32) (Mm : Int32) (Mt : (Nat → Int32)) : Nat → (Nat → Int32) → Int32 → Option (Nat → Int32)
  | 0, _, _ => none
  | n + 1, Mk, x1 => fX9_keep_B2 N Mh Mn Mm Mt (fX9_keep_H2 N Mh Mn Mm Mt n) Mk x1
def fX9_keep (N : Nat) (Mh : Int32) (Mn : Int32) (Mm : Int32) (Mt : (Nat → Int32)) (Mk : (Nat → Int32)) : Option (Nat → Int32) :=
  fX9_keep_H2 N Mh Mn Mm Mt N Mk (0 : Int32)
def fX9_reverse_J44 (N : Nat) (Mn : Int32) (Mm : Int32) (Mh : Int32) (Mt : (Nat → Int32)) (Mk : (Nat → Int32)) : Option (Int32 × Int32 × (Nat → Int32) × (Nat → Int32)) :=
  some (Mn, Mh, Mt, Mk)
def fX9_reverse_B11 (N : Nat) (Mn : Int32) (Mm : Int32) (k11 : Int32 → (Nat → Int32) → (Nat → Int32) → Int32 → Option (Int32 × Int32 × (Nat → Int32) × (Nat → Int32))) (Mh : Int32) (Mt : (Nat → Int32)) (Mk : (Nat → Int32)) (x1 : Int32) : Option (Int32 × Int32 × (Nat → Int32) × (Nat → Int32)) :=
  if Mn ≤ x1 then
    fX9_reverse_J44 N Mn Mm Mh Mt Mk
  else
    gd (inb ((Mn - (1 : Int32)) - x1) 64) (
      gd (inb x1 64) (
        k11 Mh (upd Mt (x1).toNatClampNeg (Mk (((Mn - (1 : Int32)) - x1)).toNatClampNeg)) Mk (x1 + 1)))
def fX9_reverse_H11 (N : Nat) (Mn : Int32) (Mm : Int32) : Nat → Int32 → (Nat → Int32) → (Nat → Int32) → Int32 → Option (Int32 × Int32 × (Nat → Int32) × (Nat → Int32))
  | 0, _, _, _, _ => none
  | n + 1, Mh, Mt, Mk, x1 => fX9_reverse_B11 N Mn Mm (fX9_reverse_H11 N Mn Mm n) Mh Mt Mk x1
def fX9_reverse (N : Nat) (Mh : Int32) (Mn : Int32) (Mm : Int32) (Mt : (Nat → Int32)) (Mk : (Nat → Int32)) : Option (Int32 × Int32 × (Nat → Int32) × (Nat → Int32)) :=
  bn (fX9_keep N (0 : Int32) Mn Mm Mt Mk) (fun v6 =>
    fX9_reverse_H11 N Mn Mm N (0 : Int32) Mt v6 (0 : Int32))
def fX9_rotate_J74 (N : Nat) (Mn : Int32) (Mm : Int32) (Mh : Int32) (Mt : (Nat → Int32)) (Mk : (Nat → Int32)) : Option (Int32 × Int32 × (Nat → Int32) × (Nat → Int32)) :=
  gd (inb (0 : Int32) 64) (
    some ((Mt ((0 : Int32)).toNatClampNeg), Mh, Mt, Mk))
def fX9_rotate_B41 (N : Nat) (Mn : Int32) (Mm : Int32) (k41 : Int32 → (Nat → Int32) → (Nat → Int32) → Int32 → Int32 → Option (Int32 × Int32 × (Nat → Int32) × (Nat → Int32))) (Mh : Int32) (Mt : (Nat → Int32)) (Mk : (Nat → Int32)) (x1 : Int32) (x2 : Int32) : Option (Int32 × Int32 × (Nat → Int32) × (Nat → Int32)) :=
  if Mn ≤ x2 then
    fX9_rotate_J74 N Mn Mm Mh Mt Mk
  else
    gd (nz Mn) (
      gd (inb ((x2 + x1) - (x2 + x1) / Mn * Mn) 64) (
        gd (inb x2 64) (
          k41 Mh (upd Mt (x2).toNatClampNeg (Mk (((x2 + x1) - (x2 + x1) / Mn * Mn)).toNatClampNeg)) Mk x1 (x2 + 1))))
def fX9_rotate_H41 (N : Nat) (Mn : Int32) (Mm : Int32) : Nat → Int32 → (Nat → Int32) → (Nat → Int32) → Int32 → Int32 → Option (Int32 × Int32 × (Nat → Int32) × (Nat → Int32))
  | 0, _, _, _, _, _ => none
  | n + 1, Mh, Mt, Mk, x1, x2 => fX9_rotate_B41 N Mn Mm (fX9_rotate_H41 N Mn Mm n) Mh Mt Mk x1 x2
def fX9_rotate_J27 (N : Nat) (Mn : Int32) (Mm : Int32) (Mh : Int32) (Mt : (Nat → Int32)) (Mk : (Nat → Int32)) (x1 : Int32) (y1 : Int32) : Option (Int32 × Int32 × (Nat → Int32) × (Nat → Int32)) :=
  bn (fX9_goesWell N Mh Mn Mm y1) (fun v27 =>
    if v27.1 = 0 then
      some ((0 : Int32), v27.2, Mt, Mk)
    else
      bn (fX9_keep N v27.2 Mn Mm Mt Mk) (fun v36 =>
        fX9_rotate_H41 N Mn Mm N v27.2 Mt v36 x1 (0 : Int32)))
def fX9_rotate (N : Nat) (Mh : Int32) (Mn : Int32) (Mm : Int32) (Mt : (Nat → Int32)) (Mk : (Nat → Int32)) (p1 : Int32) : Option (Int32 × Int32 × (Nat → Int32) × (Nat → Int32)) :=
  bn (fX9_in N p1 (0 : Int32) (63 : Int32)) (fun v5 =>
    if v5 = 0 then
      fX9_rotate_J27 N Mn Mm Mh Mt Mk p1 (1 : Int32)
    else
      if Mn = 0 then
        fX9_rotate_J27 N Mn Mm Mh Mt Mk p1 (2 : Int32)
      else
        fX9_rotate_J27 N Mn Mm Mh Mt Mk p1 (0 : Int32))
def fX9_appendPart_J78 (N : Nat) (Mm : Int32) (Mh : Int32) (Mn : Int32) (Mt : (Nat → Int32)) : Option (Int32 × Int32 × Int32 × (Nat → Int32)) :=
  some (Mn, Mh, Mn, Mt)
def fX9_appendPart_B42 (N : Nat) (Mm : Int32) (k42 : Int32 → Int32 → (Nat → Int32) → Int32 → Int32 → Option (Int32 × Int32 × Int32 × (Nat → Int32))) (Mh : Int32) (Mn : Int32) (Mt : (Nat → Int32)) (x2 : Int32) (x3 : Int32) : Option (Int32 × Int32 × Int32 × (Nat → Int32)) :=
  if x2 ≤ x3 then
    fX9_appendPart_J78 N Mm Mh Mn Mt
  else
    gd (inb x3 64) (
      gd (inb Mn 64) (
        k42 Mh (Mn + (1 : Int32)) (upd Mt (Mn).toNatClampNeg (Mt (x3).toNatClampNeg)) x2 (x3 + 1)))
def fX9_appendPart_H42 (N : Nat) (Mm : Int32) : Nat → Int32 → Int32 → (Nat → Int32) → Int32 → Int32 → Option (Int32 × Int32 × Int32 × (Nat → Int32))
  | 0, _, _, _, _, _ => none
  | n + 1, Mh, Mn, Mt, x2, x3 => fX9_appendPart_B42 N Mm (fX9_appendPart_H42 N Mm n) Mh Mn Mt x2 x3
def fX9_appendPart_J32 (N : Nat) (Mm : Int32) (Mh : Int32) (Mn : Int32) (Mt : (Nat → Int32)) (x1 : Int32) (x2 : Int32) (y1 : Int32) : Option (Int32 × Int32 × Int32 × (Nat → Int32)) :=
  bn (fX9_goesWell N Mh Mn Mm y1) (fun v32 =>
    if v32.1 = 0 then
      some ((0 : Int32), v32.2, Mn, Mt)
    else
      fX9_appendPart_H42 N Mm N v32.2 Mn Mt x2 x1)
def fX9_appendPart (N : Nat) (Mh : Int32) (Mn : Int32) (Mm : Int32) (Mt : (Nat → Int32)) (p1 : Int32) (p2 : Int32) : Option (Int32 × Int32 × Int32 × (Nat → Int32)) :=
  bn (fX9_isPart N Mh Mn Mm p1 p2) (fun v4 =>
    if v4 = 0 then
      fX9_appendPart_J32 N Mm Mh Mn Mt p1 p2 (1 : Int32)
    else
      if ((Mn + p2) - p1) ≤ (64 : Int32) then
        fX9_appendPart_J32 N Mm Mh Mn Mt p1 p2 (0 : Int32)
      else
        fX9_appendPart_J32 N Mm Mh Mn Mt p1 p2 (2 : Int32))
def fX9_power_J19 (N : Nat) (x2 : Int32) : Option Int32 :=
  some x2
def fX9_power_B4 (N : Nat) (k4 : Int32 → Int32 → Int32 → Int32 → Option Int32) (x0 : Int32) (x1 : Int32) (x2 : Int32) (x3 : Int32) : Option Int32 :=
  if x1 ≤ x3 then
    fX9_power_J19 N x2
  else
    k4 x0 x1 (x2 * x0) (x3 + 1)
def fX9_power_H4 (N : Nat) : Nat → Int32 → Int32 → Int32 → Int32 → Option Int32
  | 0, _, _, _, _ => none
  | n + 1, x0, x1, x2, x3 => fX9_power_B4 N (fX9_power_H4 N n) x0 x1 x2 x3
def fX9_power (N : Nat) (p0 : Int32) (p1 : Int32) : Option Int32 :=
  fX9_power_H4 N N p0 p1 (1 : Int32) (0 : Int32)
def fX9_layWord_J36 (N : Nat) (Mh : Int32) (Mn : Int32) (Mm : Int32) (Mw : (Nat → Int32)) : Option (Nat → Int32) :=
  some Mw
def fX9_layWord_B8 (N : Nat) (Mh : Int32) (Mn : Int32) (Mm : Int32) (k8 : (Nat → Int32) → Int32 → Int32 → Int32 → Option (Nat → Int32)) (Mw : (Nat → Int32)) (x2 : Int32) (x4 : Int32) (x5 : Int32) : Option (Nat → Int32) :=
  if x5 < 0 then
    fX9_layWord_J36 N Mh Mn Mm Mw
  else
    gd (nz x2) (
      gd (inb x5 8) (
        gd (nz x2) (
          k8 (upd Mw (x5).toNatClampNeg (x4 - x4 / x2 * x2)) x2 (x4 / x2) (x5 + (-1 : Int32)))))
def fX9_layWord_H8 (N : Nat) (Mh : Int32) (Mn : Int32) (Mm : Int32) : Nat → (Nat → Int32) → Int32 → Int32 → Int32 → Option (Nat → Int32)
  | 0, _, _, _, _ => none
  | n + 1, Mw, x2, x4, x5 => fX9_layWord_B8 N Mh Mn Mm (fX9_layWord_H8 N Mh Mn Mm n) Mw x2 x4 x5
def fX9_layWord (N : Nat) (Mh : Int32) (Mn : Int32) (Mm : Int32) (Mw : (Nat → Int32)) (p1 : Int32) (p2 : Int32) (p3 : Int32) : Option (Nat → Int32) :=
  fX9_layWord_H8 N Mh Mn Mm N Mw p2 p1 (p3 - (1 : Int32))
def fX9_isLyndonWord_J88 (N : Nat) (Mh : Int32) (Mn : Int32) (Mm : Int32) (Mw : (Nat → Int32)) (x2 : Int32) : Option Int32 :=
  gd (isB x2) (some x2)
def fX9_isLyndonWord_J81 (N : Nat) (Mh : Int32) (Mn : Int32) (Mm : Int32) (Mw : (Nat → Int32)) (k4 : Int32 → Int32 → Int32 → Option Int32) (x1 : Int32) (x3 : Int32) (y0 : Int32) : Option Int32 :=
  k4 x1 y0 (x3 + 1)
def fX9_isLyndonWord_J80 (N : Nat) (Mh : Int32) (Mn : Int32) (Mm : Int32) (Mw : (Nat → Int32)) (k4 : Int32 → Int32 → Int32 → Option Int32) (x1 : Int32) (x3 : Int32) : Option Int32 :=
  fX9_isLyndonWord_J81 N Mh Mn Mm Mw k4 x1 x3 (0 : Int32)
def fX9_isLyndonWord_J45 (N : Nat) (Mh : Int32) (Mn : Int32) (Mm : Int32) (Mw : (Nat → Int32)) (k4 : Int32 → Int32 → Int32 → Option Int32) (x1 : Int32) (x2 : Int32) (x3 : Int32) (x4 : Int32) : Option Int32 :=
  if x2 = 0 then
    fX9_isLyndonWord_J80 N Mh Mn Mm Mw k4 x1 x3
  else
    if x1 ≤ (x3 + x4) then
      fX9_isLyndonWord_J80 N Mh Mn Mm Mw k4 x1 x3
    else
      gd (inb x4 8) (
        gd (inb (x3 + x4) 8) (
          if (Mw ((x3 + x4)).toNatClampNeg) ≤ (Mw (x4).toNatClampNeg) then
            fX9_isLyndonWord_J80 N Mh Mn Mm Mw k4 x1 x3
          else
            fX9_isLyndonWord_J81 N Mh Mn Mm Mw k4 x1 x3 (1 : Int32)))
def fX9_isLyndonWord_B12 (N : Nat) (Mh : Int32) (Mn : Int32) (Mm : Int32) (Mw : (Nat → Int32)) (k4 : Int32 → Int32 → Int32 → Option Int32) (k12 : Int32 → Int32 → Int32 → Int32 → Option Int32) (x1 : Int32) (x2 : Int32) (x3 : Int32) (x4 : Int32) : Option Int32 :=
  if x1 ≤ (x3 + x4) then
    fX9_isLyndonWord_J45 N Mh Mn Mm Mw k4 x1 x2 x3 x4
  else
    gd (inb x4 8) (
      gd (inb (x3 + x4) 8) (
        if (Mw (x4).toNatClampNeg) = (Mw ((x3 + x4)).toNatClampNeg) then
          k12 x1 x2 x3 (x4 + 1)
        else
          fX9_isLyndonWord_J45 N Mh Mn Mm Mw k4 x1 x2 x3 x4))
def fX9_isLyndonWord_H12 (N : Nat) (Mh : Int32) (Mn : Int32) (Mm : Int32) (Mw : (Nat → Int32)) (k4 : Int32 → Int32 → Int32 → Option Int32) : Nat → Int32 → Int32 → Int32 → Int32 → Option Int32
  | 0, _, _, _, _ => none
  | n + 1, x1, x2, x3, x4 => fX9_isLyndonWord_B12 N Mh Mn Mm Mw k4 (fX9_isLyndonWord_H12 N Mh Mn Mm Mw k4 n) x1 x2 x3 x4
def fX9_isLyndonWord_B4 (N : Nat) (Mh : Int32) (Mn : Int32) (Mm : Int32) (Mw : (Nat → Int32)) (k4 : Int32 → Int32 → Int32 → Option Int32) (x1 : Int32) (x2 : Int32) (x3 : Int32) : Option Int32 :=
  if x1 ≤ x3 then
    fX9_isLyndonWord_J88 N Mh Mn Mm Mw x2
  else
    fX9_isLyndonWord_H12 N Mh Mn Mm Mw k4 N x1 x2 x3 (0 : Int32)
def fX9_isLyndonWord_H4 (N : Nat) (Mh : Int32) (Mn : Int32) (Mm : Int32) (Mw : (Nat → Int32)) : Nat → Int32 → Int32 → Int32 → Option Int32
  | 0, _, _, _ => none
  | n + 1, x1, x2, x3 => fX9_isLyndonWord_B4 N Mh Mn Mm Mw (fX9_isLyndonWord_H4 N Mh Mn Mm Mw n) x1 x2 x3
def fX9_isLyndonWord (N : Nat) (Mh : Int32) (Mn : Int32) (Mm : Int32) (Mw : (Nat → Int32)) (p1 : Int32) : Option Int32 :=
  fX9_isLyndonWord_H4 N Mh Mn Mm Mw N p1 (1 : Int32) (1 : Int32)
def fX9_isNecklaceWord_J88 (N : Nat) (Mh : Int32) (Mn : Int32) (Mm : Int32) (Mw : (Nat → Int32)) (x2 : Int32) : Option Int32 :=
  gd (isB x2) (some x2)
def fX9_isNecklaceWord_J81 (N : Nat) (Mh : Int32) (Mn : Int32) (Mm : Int32) (Mw : (Nat → Int32)) (k4 : Int32 → Int32 → Int32 → Option Int32) (x1 : Int32) (x3 : Int32) (y0 : Int32) : Option Int32 :=
  k4 x1 y0 (x3 + 1)
def fX9_isNecklaceWord_J80 (N : Nat) (Mh : Int32) (Mn : Int32) (Mm : Int32) (Mw : (Nat → Int32)) (k4 : Int32 → Int32 → Int32 → Option Int32) (x1 : Int32) (x3 : Int32) : Option Int32 :=
  fX9_isNecklaceWord_J81 N Mh Mn Mm Mw k4 x1 x3 (0 : Int32)
def fX9_isNecklaceWord_J76 (N : Nat) (Mh : Int32) (Mn : Int32) (Mm : Int32) (Mw : (Nat → Int32)) (k4 : Int32 → Int32 → Int32 → Option Int32) (x1 : Int32) (x3 : Int32) : Option Int32 :=
  fX9_isNecklaceWord_J81 N Mh Mn Mm Mw k4 x1 x3 (1 : Int32)
def fX9_isNecklaceWord_J45 (N : Nat) (Mh : Int32) (Mn : Int32) (Mm : Int32) (Mw : (Nat → Int32)) (k4 : Int32 → Int32 → Int32 → Option Int32) (x1 : Int32) (x2 : Int32) (x3 : Int32) (x4 : Int32) : Option Int32 :=
  if x2 = 0 then
    fX9_isNecklaceWord_J80 N Mh Mn Mm Mw k4 x1 x3
  else
    if x4 = x1 then
      fX9_isNecklaceWord_J76 N Mh Mn Mm Mw k4 x1 x3
    else
      gd (inb x4 8) (
        gd (nz x1) (
          gd (inb ((x4 + x3) - (x4 + x3) / x1 * x1) 8) (
            if (Mw (((x4 + x3) - (x4 + x3) / x1 * x1)).toNatClampNeg) ≤ (Mw (x4).toNatClampNeg) then
              fX9_isNecklaceWord_J80 N Mh Mn Mm Mw k4 x1 x3
            else
              fX9_isNecklaceWord_J76 N Mh Mn Mm Mw k4 x1 x3)))
def fX9_isNecklaceWord_B12 (N : Nat) (Mh : Int32) (Mn : Int32) (Mm : Int32) (Mw : (Nat → Int32)) (k4 : Int32 → Int32 → Int32 → Option Int32) (k12 : Int32 → Int32 → Int32 → Int32 → Option Int32) (x1 : Int32) (x2 : Int32) (x3 : Int32) (x4 : Int32) : Option Int32 :=
  if x1 ≤ x4 then
    fX9_isNecklaceWord_J45 N Mh Mn Mm Mw k4 x1 x2 x3 x4
  else
    gd (inb x4 8) (
      gd (nz x1) (
        gd (inb ((x4 + x3) - (x4 + x3) / x1 * x1) 8) (
          if (Mw (x4).toNatClampNeg) = (Mw (((x4 + x3) - (x4 + x3) / x1 * x1)).toNatClampNeg) then
            k12 x1 x2 x3 (x4 + 1)
          else
            fX9_isNecklaceWord_J45 N Mh Mn Mm Mw k4 x1 x2 x3 x4)))
def fX9_isNecklaceWord_H12 (N : Nat) (Mh : Int32) (Mn : Int32) (Mm : Int32) (Mw : (Nat → Int32)) (k4 : Int32 → Int32 → Int32 → Option Int32) : Nat → Int32 → Int32 → Int32 → Int32 → Option Int32
  | 0, _, _, _, _ => none
  | n + 1, x1, x2, x3, x4 => fX9_isNecklaceWord_B12 N Mh Mn Mm Mw k4 (fX9_isNecklaceWord_H12 N Mh Mn Mm Mw k4 n) x1 x2 x3 x4
def fX9_isNecklaceWord_B4 (N : Nat) (Mh : Int32) (Mn : Int32) (Mm : Int32) (Mw : (Nat → Int32)) (k4 : Int32 → Int32 → Int32 → Option Int32) (x1 : Int32) (x2 : Int32) (x3 : Int32) : Option Int32 :=
  if x1 ≤ x3 then
    fX9_isNecklaceWord_J88 N Mh Mn Mm Mw x2
  else
    fX9_isNecklaceWord_H12 N Mh Mn Mm Mw k4 N x1 x2 x3 (0 : Int32)
def fX9_isNecklaceWord_H4 (N : Nat) (Mh : Int32) (Mn : Int32) (Mm : Int32) (Mw : (Nat → Int32)) : Nat → Int32 → Int32 → Int32 → Option Int32
  | 0, _, _, _ => none
  | n + 1, x1, x2, x3 => fX9_isNecklaceWord_B4 N Mh Mn Mm Mw (fX9_isNecklaceWord_H4 N Mh Mn Mm Mw n) x1 x2 x3
def fX9_isNecklaceWord (N : Nat) (Mh : Int32) (Mn : Int32) (Mm : Int32) (Mw : (Nat → Int32)) (p1 : Int32) : Option Int32 :=
  fX9_isNecklaceWord_H4 N Mh Mn Mm Mw N p1 (1 : Int32) (1 : Int32)
def fX9_compareWords_J62 (N : Nat) (Mh : Int32) (Mn : Int32) (Mm : Int32) (Mw : (Nat → Int32)) (Ml : (Nat → Int32)) (y0 : Int32) : Option Int32 :=
  some y0
def fX9_compareWords_J59 (N : Nat) (Mh : Int32) (Mn : Int32) (Mm : Int32) (Mw : (Nat → Int32)) (Ml : (Nat → Int32)) (x1 : Int32) (x2 : Int32) : Option Int32 :=
  fX9_compareWords_J62 N Mh Mn Mm Mw Ml (x1 - x2)
def fX9_compareWords_J33 (N : Nat) (Mh : Int32) (Mn : Int32) (Mm : Int32) (Mw : (Nat → Int32)) (Ml : (Nat → Int32)) (x1 : Int32) (x2 : Int32) (x3 : Int32) : Option Int32 :=
  if x1 ≤ x3 then
    fX9_compareWords_J59 N Mh Mn Mm Mw Ml x1 x2
  else
    if x2 ≤ x3 then
      fX9_compareWords_J59 N Mh Mn Mm Mw Ml x1 x2
    else
      gd (inb x3 8) (
        gd (inb x3 8) (
          fX9_compareWords_J62 N Mh Mn Mm Mw Ml ((Mw (x3).toNatClampNeg) - (Ml (x3).toNatClampNeg))))
def fX9_compareWords_B2 (N : Nat) (Mh : Int32) (Mn : Int32) (Mm : Int32) (Mw : (Nat → Int32)) (Ml : (Nat → Int32)) (k2 : Int32 → Int32 → Int32 → Option Int32) (x1 : Int32) (x2 : Int32) (x3 : Int32) : Option Int32 :=
  if x1 ≤ x3 then
    fX9_compareWords_J33 N Mh Mn Mm Mw Ml x1 x2 x3
  else
    if x2 ≤ x3 then
      fX9_compareWords_J33 N Mh Mn Mm Mw Ml x1 x2 x3
    else
      gd (inb x3 8) (
        gd (inb x3 8) (
          if (Mw (x3).toNatClampNeg) = (Ml (x3).toNatClampNeg) then
            k2 x1 x2 (x3 + 1)
          else
            fX9_compareWords_J33 N Mh Mn Mm Mw Ml x1 x2 x3))
def fX9_compareWords_H2 (N : Nat) (Mh : Int32) (Mn : Int32) (Mm : Int32) (Mw : (Nat → Int32)) (Ml : (Nat → Int32)) : Nat → Int32 → Int32 → Int32 → Option Int32
  | 0, _, _, _ => none
  | n + 1, x1, x2, x3 => fX9_compareWords_B2 N Mh Mn Mm Mw Ml (fX9_compareWords_H2 N Mh Mn Mm Mw Ml n) x1 x2 x3
def fX9_compareWords (N : Nat) (Mh : Int32) (Mn : Int32) (Mm : Int32) (Mw : (Nat → Int32)) (Ml : (Nat → Int32)) (p1 : Int32) (p2 : Int32) : Option Int32 :=
  fX9_compareWords_H2 N Mh Mn Mm Mw Ml N p1 p2 (0 : Int32)
def fX9_isBelow_J62 (N : Nat) (y0 : Int32) : Option Int32 :=
  gd (isB y0) (some y0)
def fX9_isBelow_J57 (N : Nat) : Option Int32 :=
  fX9_isBelow_J62 N (1 : Int32)
def fX9_isBelow_J61 (N : Nat) : Option Int32 :=
  fX9_isBelow_J62 N (0 : Int32)
def fX9_isBelow_J10 (N : Nat) (x0 : Int32) (x1 : Int32) (x2 : Int32) (x3 : Int32) (x4 : Int32) (y0 : Int32) : Option Int32 :=
  bn (fX9_power N x4 (x1 - y0)) (fun v19 =>
    gd (nz v19) (
      bn (fX9_power N x4 (x3 - y0)) (fun v32 =>
        gd (nz v32) (
          if (x0 / v19) < (x2 / v32) then
            fX9_isBelow_J57 N
          else
            if (x0 / v19) = (x2 / v32) then
              if x3 ≤ x1 then
                fX9_isBelow_J61 N
              else
                fX9_isBelow_J57 N
            else
              fX9_isBelow_J61 N))))
def fX9_isBelow (N : Nat) (p0 : Int32) (p1 : Int32) (p2 : Int32) (p3 : Int32) (p4 : Int32) : Option Int32 :=
  if p3 ≤ p1 then
    fX9_isBelow_J10 N p0 p1 p2 p3 p4 p3
  else
    fX9_isBelow_J10 N p0 p1 p2 p3 p4 p1
def fX9_nextLyndon_J147 (N : Nat) (Mh : Int32) (Mn : Int32) (Mm : Int32) (Mw : (Nat → Int32)) (Ml : (Nat → Int32)) (x4 : Int32) : Option (Int32 × (Nat → Int32) × (Nat → Int32)) :=
  some (x4, Mw, Ml)
def fX9_nextLyndon_B120 (N : Nat) (Mh : Int32) (Mn : Int32) (Mm : Int32) (k120 : (Nat → Int32) → (Nat → Int32) → Int32 → Int32 → Option (Int32 × (Nat → Int32) × (Nat → Int32))) (Mw : (Nat → Int32)) (Ml : (Nat → Int32)) (x4 : Int32) (x6 : Int32) : Option (Int32 × (Nat → Int32) × (Nat → Int32)) :=
  if x4 ≤ x6 then
    fX9_nextLyndon_J147 N Mh Mn Mm Mw Ml x4
  else
    gd (inb x6 8) (
      gd (inb x6 8) (
        k120 Mw (upd Ml (x6).toNatClampNeg (Mw (x6).toNatClampNeg)) x4 (x6 + 1)))
def fX9_nextLyndon_H120 (N : Nat) (Mh : Int32) (Mn : Int32) (Mm : Int32) : Nat → (Nat → Int32) → (Nat → Int32) → Int32 → Int32 → Option (Int32 × (Nat → Int32) × (Nat → Int32))
  | 0, _, _, _, _ => none
  | n + 1, Mw, Ml, x4, x6 => fX9_nextLyndon_B120 N Mh Mn Mm (fX9_nextLyndon_H120 N Mh Mn Mm n) Mw Ml x4 x6
def fX9_nextLyndon_J108 (N : Nat) (Mh : Int32) (Mn : Int32) (Mm : Int32) (Mw : (Nat → Int32)) (Ml : (Nat → Int32)) (x1 : Int32) (x4 : Int32) (x5 : Int32) : Option (Int32 × (Nat → Int32) × (Nat → Int32)) :=
  bn (fX9_layWord N Mh Mn Mm Mw x5 x1 x4) (fun v114 =>
    fX9_nextLyndon_H120 N Mh Mn Mm N v114 Ml x4 (0 : Int32))
def fX9_nextLyndon_J102 (N : Nat) (Mh : Int32) (Mn : Int32) (Mm : Int32) (k9 : (Nat → Int32) → (Nat → Int32) → Int32 → Int32 → Int32 → Int32 → Int32 → Int32 → Option (Int32 × (Nat → Int32) × (Nat → Int32))) (Mw : (Nat → Int32)) (Ml : (Nat → Int32)) (x1 : Int32) (x2 : Int32) (x3 : Int32) (x4 : Int32) (x5 : Int32) (x6 : Int32) : Option (Int32 × (Nat → Int32) × (Nat → Int32)) :=
  k9 Mw Ml x1 x2 x3 x4 x5 (x6 + 1)
def fX9_nextLyndon_J96 (N : Nat) (Mh : Int32) (Mn : Int32) (Mm : Int32) (k9 : (Nat → Int32) → (Nat → Int32) → Int32 → Int32 → Int32 → Int32 → Int32 → Int32 → Option (Int32 × (Nat → Int32) × (Nat → Int32))) (k18 : (Nat → Int32) → (Nat → Int32) → Int32 → Int32 → Int32 → Int32 → Int32 → Int32 → Int32 → Option (Int32 × (Nat → Int32) × (Nat → Int32))) (Mw : (Nat → Int32)) (Ml : (Nat → Int32)) (x1 : Int32) (x2 : Int32) (x3 : Int32) (x4 : Int32) (x5 : Int32) (x6 : Int32) (x7 : Int32) : Option (Int32 × (Nat → Int32) × (Nat → Int32)) :=
  k18 Mw Ml x1 x2 x3 x4 x5 x6 (x7 + 1)
def fX9_nextLyndon_J88 (N : Nat) (Mh : Int32) (Mn : Int32) (Mm : Int32) (k9 : (Nat → Int32) → (Nat → Int32) → Int32 → Int32 → Int32 → Int32 → Int32 → Int32 → Option (Int32 × (Nat → Int32) × (Nat → Int32))) (k18 : (Nat → Int32) → (Nat → Int32) → Int32 → Int32 → Int32 → Int32 → Int32 → Int32 → Int32 → Option (Int32 × (Nat → Int32) × (Nat → Int32))) (Mw : (Nat → Int32)) (Ml : (Nat → Int32)) (x1 : Int32) (x2 : Int32) (x3 : Int32) (x6 : Int32) (x7 : Int32) : Option (Int32 × (Nat → Int32) × (Nat → Int32)) :=
  fX9_nextLyndon_J96 N Mh Mn Mm k9 k18 Mw Ml x1 x2 x3 x6 x7 x6 x7
def fX9_nextLyndon_J68 (N : Nat) (Mh : Int32) (Mn : Int32) (Mm : Int32) (k9 : (Nat → Int32) → (Nat → Int32) → Int32 → Int32 → Int32 → Int32 → Int32 → Int32 → Option (Int32 × (Nat → Int32) × (Nat → Int32))) (k18 : (Nat → Int32) → (Nat → Int32) → Int32 → Int32 → Int32 → Int32 → Int32 → Int32 → Int32 → Option (Int32 × (Nat → Int32) × (Nat → Int32))) (Mw : (Nat → Int32)) (Ml : (Nat → Int32)) (x1 : Int32) (x2 : Int32) (x3 : Int32) (x4 : Int32) (x5 : Int32) (x6 : Int32) (x7 : Int32) : Option (Int32 × (Nat → Int32) × (Nat → Int32)) :=
  if x4 = 0 then
    fX9_nextLyndon_J88 N Mh Mn Mm k9 k18 Mw Ml x1 x2 x3 x6 x7
  else
    bn (fX9_isBelow N x7 x6 x5 x4 x1) (fun v82 =>
      if v82 = 0 then
        fX9_nextLyndon_J96 N Mh Mn Mm k9 k18 Mw Ml x1 x2 x3 x4 x5 x6 x7
      else
        fX9_nextLyndon_J88 N Mh Mn Mm k9 k18 Mw Ml x1 x2 x3 x6 x7)
def fX9_nextLyndon_B18 (N : Nat) (Mh : Int32) (Mn : Int32) (Mm : Int32) (k9 : (Nat → Int32) → (Nat → Int32) → Int32 → Int32 → Int32 → Int32 → Int32 → Int32 → Option (Int32 × (Nat → Int32) × (Nat → Int32))) (k18 : (Nat → Int32) → (Nat → Int32) → Int32 → Int32 → Int32 → Int32 → Int32 → Int32 → Int32 → Option (Int32 × (Nat → Int32) × (Nat → Int32))) (Mw : (Nat → Int32)) (Ml : (Nat → Int32)) (x1 : Int32) (x2 : Int32) (x3 : Int32) (x4 : Int32) (x5 : Int32) (x6 : Int32) (x7 : Int32) : Option (Int32 × (Nat → Int32) × (Nat → Int32)) :=
  gd (nz x6) (
    if (x2 - x2 / x6 * x6) = 0 then
      bn (fX9_power N x1 x6) (fun v30 =>
        if v30 ≤ x7 then
          fX9_nextLyndon_J102 N Mh Mn Mm k9 Mw Ml x1 x2 x3 x4 x5 x6
        else
          bn (fX9_layWord N Mh Mn Mm Mw x7 x1 x6) (fun v42 =>
            bn (fX9_isLyndonWord N Mh Mn Mm v42 x6) (fun v48 =>
              if v48 = 0 then
                fX9_nextLyndon_J96 N Mh Mn Mm k9 k18 v42 Ml x1 x2 x3 x4 x5 x6 x7
              else
                if x3 = 0 then
                  fX9_nextLyndon_J68 N Mh Mn Mm k9 k18 v42 Ml x1 x2 x3 x4 x5 x6 x7
                else
                  bn (fX9_compareWords N Mh Mn Mm v42 Ml x6 x3) (fun v62 =>
                    if v62 ≤ 0 then
                      fX9_nextLyndon_J96 N Mh Mn Mm k9 k18 v42 Ml x1 x2 x3 x4 x5 x6 x7
                    else
                      fX9_nextLyndon_J68 N Mh Mn Mm k9 k18 v42 Ml x1 x2 x3 x4 x5 x6 x7))))
    else
      fX9_nextLyndon_J102 N Mh Mn Mm k9 Mw Ml x1 x2 x3 x4 x5 x6)
def fX9_nextLyndon_H18 (N : Nat) (Mh : Int32) (Mn : Int32) (Mm : Int32) (k9 : (Nat → Int32) → (Nat → Int32) → Int32 → Int32 → Int32 → Int32 → Int32 → Int32 → Option (Int32 × (Nat → Int32) × (Nat → Int32))) : Nat → (Nat → Int32) → (Nat → Int32) → Int32 → Int32 → Int32 → Int32 → Int32 → Int32 → Int32 → Option (Int32 × (Nat → Int32) × (Nat → Int32))
  | 0, _, _, _, _, _, _, _, _, _ => none
  | n + 1, Mw, Ml, x1, x2, x3, x4, x5, x6, x7 => fX9_nextLyndon_B18 N Mh Mn Mm k9 (fX9_nextLyndon_H18 N Mh Mn Mm k9 n) Mw Ml x1 x2 x3 x4 x5 x6 x7
def fX9_nextLyndon_B9 (N : Nat) (Mh : Int32) (Mn : Int32) (Mm : Int32) (k9 : (Nat → Int32) → (Nat → Int32) → Int32 → Int32 → Int32 → Int32 → Int32 → Int32 → Option (Int32 × (Nat → Int32) × (Nat → Int32))) (Mw : (Nat → Int32)) (Ml : (Nat → Int32)) (x1 : Int32) (x2 : Int32) (x3 : Int32) (x4 : Int32) (x5 : Int32) (x6 : Int32) : Option (Int32 × (Nat → Int32) × (Nat → Int32)) :=
  if x2 < x6 then
    fX9_nextLyndon_J108 N Mh Mn Mm Mw Ml x1 x4 x5
  else
    fX9_nextLyndon_H18 N Mh Mn Mm k9 N Mw Ml x1 x2 x3 x4 x5 x6 (0 : Int32)
def fX9_nextLyndon_H9 (N : Nat) (Mh : Int32) (Mn : Int32) (Mm : Int32) : Nat → (Nat → Int32) → (Nat → Int32) → Int32 → Int32 → Int32 → Int32 → Int32 → Int32 → Option (Int32 × (Nat → Int32) × (Nat → Int32))
  | 0, _, _, _, _, _, _, _, _ => none
  | n + 1, Mw, Ml, x1, x2, x3, x4, x5, x6 => fX9_nextLyndon_B9 N Mh Mn Mm (fX9_nextLyndon_H9 N Mh Mn Mm n) Mw Ml x1 x2 x3 x4 x5 x6
def fX9_nextLyndon (N : Nat) (Mh : Int32) (Mn : Int32) (Mm : Int32) (Mw : (Nat → Int32)) (Ml : (Nat → Int32)) (p1 : Int32) (p2 : Int32) (p3 : Int32) : Option (Int32 × (Nat → Int32) × (Nat → Int32)) :=
  fX9_nextLyndon_H9 N Mh Mn Mm N Mw Ml p1 p2 p3 (0 : Int32) (0 : Int32) (1 : Int32)
def fX9_isDeBruijn_J66 (N : Nat) (y0 : Int32) : Option Int32 :=
  gd (isB y0) (some y0)
def fX9_isDeBruijn_J65 (N : Nat) : Option Int32 :=
  fX9_isDeBruijn_J66 N (0 : Int32)
def fX9_isDeBruijn_J35 (N : Nat) (x0 : Int32) (x1 : Int32) (x2 : Int32) : Option Int32 :=
  bn (fX9_in N x0 (1 : Int32) (8 : Int32)) (fun v39 =>
    if v39 = 0 then
      fX9_isDeBruijn_J65 N
    else
      bn (fX9_in N x1 (1 : Int32) (6 : Int32)) (fun v49 =>
        if v49 = 0 then
          fX9_isDeBruijn_J65 N
        else
          if (64 : Int32) < x2 then
            fX9_isDeBruijn_J65 N
          else
            fX9_isDeBruijn_J66 N (1 : Int32)))
def fX9_isDeBruijn_B4 (N : Nat) (k4 : Int32 → Int32 → Int32 → Int32 → Option Int32) (x0 : Int32) (x1 : Int32) (x2 : Int32) (x3 : Int32) : Option Int32 :=
  if x1 ≤ x3 then
    fX9_isDeBruijn_J35 N x0 x1 x2
  else
    bn (fX9_in N x0 (1 : Int32) (8 : Int32)) (fun v13 =>
      if v13 = 0 then
        fX9_isDeBruijn_J35 N x0 x1 x2
      else
        if (6 : Int32) < x1 then
          fX9_isDeBruijn_J35 N x0 x1 x2
        else
          k4 x0 x1 (x2 * x0) (x3 + 1))
def fX9_isDeBruijn_H4 (N : Nat) : Nat → Int32 → Int32 → Int32 → Int32 → Option Int32
  | 0, _, _, _, _ => none
  | n + 1, x0, x1, x2, x3 => fX9_isDeBruijn_B4 N (fX9_isDeBruijn_H4 N n) x0 x1 x2 x3
def fX9_isDeBruijn (N : Nat) (p0 : Int32) (p1 : Int32) : Option Int32 :=
  fX9_isDeBruijn_H4 N N p0 p1 (1 : Int32) (0 : Int32)
def fX9_loadDeBruijn_J91 (N : Nat) (Mm : Int32) (Mh : Int32) (Mn : Int32) (Mt : (Nat → Int32)) (Mw : (Nat → Int32)) (Ml : (Nat → Int32)) : Option (Int32 × Int32 × Int32 × (Nat → Int32) × (Nat → Int32) × (Nat → Int32)) :=
  some (Mn, Mh, Mn, Mt, Mw, Ml)
def fX9_loadDeBruijn_J80 (N : Nat) (Mm : Int32) (k35 : Int32 → Int32 → (Nat → Int32) → (Nat → Int32) → (Nat → Int32) → Int32 → Int32 → Int32 → Option (Int32 × Int32 × Int32 × (Nat → Int32) × (Nat → Int32) × (Nat → Int32))) (Mh : Int32) (Mn : Int32) (Mt : (Nat → Int32)) (Mw : (Nat → Int32)) (Ml : (Nat → Int32)) (x1 : Int32) (x2 : Int32) (x3 : Int32) : Option (Int32 × Int32 × Int32 × (Nat → Int32) × (Nat → Int32) × (Nat → Int32)) :=
  bn (fX9_nextLyndon N Mh Mn Mm Mw Ml x1 x2 x3) (fun v84 =>
    k35 Mh Mn Mt v84.2.1 v84.2.2 x1 x2 v84.1)
def fX9_loadDeBruijn_B42 (N : Nat) (Mm : Int32) (k35 : Int32 → Int32 → (Nat → Int32) → (Nat → Int32) → (Nat → Int32) → Int32 → Int32 → Int32 → Option (Int32 × Int32 × Int32 × (Nat → Int32) × (Nat → Int32) × (Nat → Int32))) (k42 : Int32 → Int32 → (Nat → Int32) → (Nat → Int32) → (Nat → Int32) → Int32 → Int32 → Int32 → Int32 → Option (Int32 × Int32 × Int32 × (Nat → Int32) × (Nat → Int32) × (Nat → Int32))) (Mh : Int32) (Mn : Int32) (Mt : (Nat → Int32)) (Mw : (Nat → Int32)) (Ml : (Nat → Int32)) (x1 : Int32) (x2 : Int32) (x3 : Int32) (x4 : Int32) : Option (Int32 × Int32 × Int32 × (Nat → Int32) × (Nat → Int32) × (Nat → Int32)) :=
  if x3 ≤ x4 then
    fX9_loadDeBruijn_J80 N Mm k35 Mh Mn Mt Mw Ml x1 x2 x3
  else
    gd (inb x4 8) (
      gd (inb Mn 64) (
        k42 Mh (Mn + (1 : Int32)) (upd Mt (Mn).toNatClampNeg (Ml (x4).toNatClampNeg)) Mw Ml x1 x2 x3 (x4 + 1)))
def fX9_loadDeBruijn_H42 (N : Nat) (Mm : Int32) (k35 : Int32 → Int32 → (Nat → Int32) → (Nat → Int32) → (Nat → Int32) → Int32 → Int32 → Int32 → Option (Int32 × Int32 × Int32 × (Nat → Int32) × (Nat → Int32) × (Nat → Int32))) : Nat → Int32 → Int32 → (Nat → Int32) → (Nat → Int32) → (Nat → Int32) → Int32 → Int32 → Int32 → Int32 → Option (Int32 × Int32 × Int32 × (Nat → Int32) × (Nat → Int32) × (Nat → Int32))
  | 0, _, _, _, _, _, _, _, _, _ => none
  | n + 1, Mh, Mn, Mt, Mw, Ml, x1, x2, x3, x4 => fX9_loadDeBruijn_B42 N Mm k35 (fX9_loadDeBruijn_H42 N Mm k35 n) Mh Mn Mt Mw Ml x1 x2 x3 x4
def fX9_loadDeBruijn_B35 (N : Nat) (Mm : Int32) (k35 : Int32 → Int32 → (Nat → Int32) → (Nat → Int32) → (Nat → Int32) → Int32 → Int32 → Int32 → Option (Int32 × Int32 × Int32 × (Nat → Int32) × (Nat → Int32) × (Nat → Int32))) (Mh : Int32) (Mn : Int32) (Mt : (Nat → Int32)) (Mw : (Nat → Int32)) (Ml : (Nat → Int32)) (x1 : Int32) (x2 : Int32) (x3 : Int32) : Option (Int32 × Int32 × Int32 × (Nat → Int32) × (Nat → Int32) × (Nat → Int32)) :=
  if x3 ≤ 0 then
    fX9_loadDeBruijn_J91 N Mm Mh Mn Mt Mw Ml
  else
    fX9_loadDeBruijn_H42 N Mm k35 N Mh Mn Mt Mw Ml x1 x2 x3 (0 : Int32)
def fX9_loadDeBruijn_H35 (N : Nat) (Mm : Int32) : Nat → Int32 → Int32 → (Nat → Int32) → (Nat → Int32) → (Nat → Int32) → Int32 → Int32 → Int32 → Option (Int32 × Int32 × Int32 × (Nat → Int32) × (Nat → Int32) × (Nat → Int32))
  | 0, _, _, _, _, _, _, _, _ => none
  | n + 1, Mh, Mn, Mt, Mw, Ml, x1, x2, x3 => fX9_loadDeBruijn_B35 N Mm (fX9_loadDeBruijn_H35 N Mm n) Mh Mn Mt Mw Ml x1 x2 x3
def fX9_loadDeBruijn_J14 (N : Nat) (Mm : Int32) (Mh : Int32) (Mn : Int32) (Mt : (Nat → Int32)) (Mw : (Nat → Int32)) (Ml : (Nat → Int32)) (x1 : Int32) (x2 : Int32) (y1 : Int32) : Option (Int32 × Int32 × Int32 × (Nat → Int32) × (Nat → Int32) × (Nat → Int32)) :=
  bn (fX9_goesWell N Mh Mn Mm y1) (fun v14 =>
    if v14.1 = 0 then
      some ((0 : Int32), v14.2, Mn, Mt, Mw, Ml)
    else
      bn (fX9_nextLyndon N v14.2 (0 : Int32) Mm Mw Ml x1 x2 (0 : Int32)) (fun v31 =>
        fX9_loadDeBruijn_H35 N Mm N v14.2 (0 : Int32) Mt v31.2.1 v31.2.2 x1 x2 v31.1))
def fX9_loadDeBruijn (N : Nat) (Mh : Int32) (Mn : Int32) (Mm : Int32) (Mt : (Nat → Int32)) (Mw : (Nat → Int32)) (Ml : (Nat → Int32)) (p1 : Int32) (p2 : Int32) : Option (Int32 × Int32 × Int32 × (Nat → Int32) × (Nat → Int32) × (Nat → Int32)) :=
  bn (fX9_isDeBruijn N p1 p2) (fun v3 =>
    if v3 = 0 then
      fX9_loadDeBruijn_J14 N Mm Mh Mn Mt Mw Ml p1 p2 (1 : Int32)
    else
      fX9_loadDeBruijn_J14 N Mm Mh Mn Mt Mw Ml p1 p2 (0 : Int32))
def fX9_necklaceWith_J49 (N : Nat) (Mh : Int32) (Mn : Int32) (Mm : Int32) (Mw : (Nat → Int32)) : Option (Int32 × (Nat → Int32)) :=
  some ((-1 : Int32), Mw)
def fX9_necklaceWith_J37 (N : Nat) (Mh : Int32) (Mn : Int32) (Mm : Int32) (Mw : (Nat → Int32)) (x5 : Int32) : Option (Int32 × (Nat → Int32)) :=
  some (x5, Mw)
def fX9_necklaceWith_J43 (N : Nat) (Mh : Int32) (Mn : Int32) (Mm : Int32) (k6 : (Nat → Int32) → Int32 → Int32 → Int32 → Int32 → Option (Int32 × (Nat → Int32))) (Mw : (Nat → Int32)) (x1 : Int32) (x2 : Int32) (x4 : Int32) (x5 : Int32) : Option (Int32 × (Nat → Int32)) :=
  k6 Mw x1 x2 x4 (x5 + 1)
def fX9_necklaceWith_B6 (N : Nat) (Mh : Int32) (Mn : Int32) (Mm : Int32) (k6 : (Nat → Int32) → Int32 → Int32 → Int32 → Int32 → Option (Int32 × (Nat → Int32))) (Mw : (Nat → Int32)) (x1 : Int32) (x2 : Int32) (x4 : Int32) (x5 : Int32) : Option (Int32 × (Nat → Int32)) :=
  bn (fX9_power N x1 x2) (fun v10 =>
    if v10 ≤ x5 then
      fX9_necklaceWith_J49 N Mh Mn Mm Mw
    else
      bn (fX9_layWord N Mh Mn Mm Mw x5 x1 x2) (fun v21 =>
        bn (fX9_isNecklaceWord N Mh Mn Mm v21 x2) (fun v26 =>
          if v26 = 0 then
            fX9_necklaceWith_J43 N Mh Mn Mm k6 v21 x1 x2 x4 x5
          else
            if x4 = 0 then
              fX9_necklaceWith_J37 N Mh Mn Mm v21 x5
            else
              fX9_necklaceWith_J43 N Mh Mn Mm k6 v21 x1 x2 (x4 + (-1 : Int32)) x5)))
def fX9_necklaceWith_H6 (N : Nat) (Mh : Int32) (Mn : Int32) (Mm : Int32) : Nat → (Nat → Int32) → Int32 → Int32 → Int32 → Int32 → Option (Int32 × (Nat → Int32))
  | 0, _, _, _, _, _ => none
  | n + 1, Mw, x1, x2, x4, x5 => fX9_necklaceWith_B6 N Mh Mn Mm (fX9_necklaceWith_H6 N Mh Mn Mm n) Mw x1 x2 x4 x5
def fX9_necklaceWith (N : Nat) (Mh : Int32) (Mn : Int32) (Mm : Int32) (Mw : (Nat → Int32)) (p1 : Int32) (p2 : Int32) (p3 : Int32) : Option (Int32 × (Nat → Int32)) :=
  fX9_necklaceWith_H6 N Mh Mn Mm N Mw p1 p2 p3 (0 : Int32)
def fX9_hasPeriod_J51 (N : Nat) (Mh : Int32) (Mn : Int32) (Mm : Int32) (Mt : (Nat → Int32)) (x4 : Int32) : Option Int32 :=
  gd (isB x4) (some x4)
def fX9_hasPeriod_J43 (N : Nat) (Mh : Int32) (Mn : Int32) (Mm : Int32) (Mt : (Nat → Int32)) (k6 : Int32 → Int32 → Int32 → Int32 → Option Int32) (x2 : Int32) (x3 : Int32) (x5 : Int32) (y0 : Int32) : Option Int32 :=
  k6 x2 x3 y0 (x5 + 1)
def fX9_hasPeriod_J42 (N : Nat) (Mh : Int32) (Mn : Int32) (Mm : Int32) (Mt : (Nat → Int32)) (k6 : Int32 → Int32 → Int32 → Int32 → Option Int32) (x2 : Int32) (x3 : Int32) (x5 : Int32) : Option Int32 :=
  fX9_hasPeriod_J43 N Mh Mn Mm Mt k6 x2 x3 x5 (0 : Int32)
def fX9_hasPeriod_B6 (N : Nat) (Mh : Int32) (Mn : Int32) (Mm : Int32) (Mt : (Nat → Int32)) (k6 : Int32 → Int32 → Int32 → Int32 → Option Int32) (x2 : Int32) (x3 : Int32) (x4 : Int32) (x5 : Int32) : Option Int32 :=
  if x2 ≤ (x5 + x3) then
    fX9_hasPeriod_J51 N Mh Mn Mm Mt x4
  else
    if x4 = 0 then
      fX9_hasPeriod_J42 N Mh Mn Mm Mt k6 x2 x3 x5
    else
      gd (inb x5 64) (
        gd (inb (x5 + x3) 64) (
          if (Mt (x5).toNatClampNeg) = (Mt ((x5 + x3)).toNatClampNeg) then
            fX9_hasPeriod_J43 N Mh Mn Mm Mt k6 x2 x3 x5 (1 : Int32)
          else
            fX9_hasPeriod_J42 N Mh Mn Mm Mt k6 x2 x3 x5))
def fX9_hasPeriod_H6 (N : Nat) (Mh : Int32) (Mn : Int32) (Mm : Int32) (Mt : (Nat → Int32)) : Nat → Int32 → Int32 → Int32 → Int32 → Option Int32
  | 0, _, _, _, _ => none
  | n + 1, x2, x3, x4, x5 => fX9_hasPeriod_B6 N Mh Mn Mm Mt (fX9_hasPeriod_H6 N Mh Mn Mm Mt n) x2 x3 x4 x5
def fX9_hasPeriod (N : Nat) (Mh : Int32) (Mn : Int32) (Mm : Int32) (Mt : (Nat → Int32)) (p1 : Int32) (p2 : Int32) (p3 : Int32) : Option Int32 :=
  fX9_hasPeriod_H6 N Mh Mn Mm Mt N p2 p3 (1 : Int32) p1
def fX9_root_J26 (N : Nat) (Mh : Int32) (Mn : Int32) (Mm : Int32) (Mt : (Nat → Int32)) (x3 : Int32) : Option Int32 :=
  some x3
def fX9_root_J20 (N : Nat) (Mh : Int32) (Mn : Int32) (Mm : Int32) (Mt : (Nat → Int32)) (k2 : Int32 → Int32 → Int32 → Option Int32) (x1 : Int32) (x2 : Int32) (x3 : Int32) : Option Int32 :=
  k2 x1 x2 (x3 + 1)
def fX9_root_B2 (N : Nat) (Mh : Int32) (Mn : Int32) (Mm : Int32) (Mt : (Nat → Int32)) (k2 : Int32 → Int32 → Int32 → Option Int32) (x1 : Int32) (x2 : Int32) (x3 : Int32) : Option Int32 :=
  gd (nz x3) (
    if ((x2 - x1) - (x2 - x1) / x3 * x3) = 0 then
      bn (fX9_hasPeriod N Mh Mn Mm Mt x1 x2 x3) (fun v14 =>
        if v14 = 0 then
          fX9_root_J20 N Mh Mn Mm Mt k2 x1 x2 x3
        else
          fX9_root_J26 N Mh Mn Mm Mt x3)
    else
      fX9_root_J20 N Mh Mn Mm Mt k2 x1 x2 x3)
def fX9_root_H2 (N : Nat) (Mh : Int32) (Mn : Int32) (Mm : Int32) (Mt : (Nat → Int32)) : Nat → Int32 → Int32 → Int32 → Option Int32
  | 0, _, _, _ => none
  | n + 1, x1, x2, x3 => fX9_root_B2 N Mh Mn Mm Mt (fX9_root_H2 N Mh Mn Mm Mt n) x1 x2 x3
def fX9_root (N : Nat) (Mh : Int32) (Mn : Int32) (Mm : Int32) (Mt : (Nat → Int32)) (p1 : Int32) (p2 : Int32) : Option Int32 :=
  fX9_root_H2 N Mh Mn Mm Mt N p1 p2 (1 : Int32)
def fX9_loadNecklace_J110 (N : Nat) (Mm : Int32) (Mh : Int32) (Mn : Int32) (Mt : (Nat → Int32)) (Mw : (Nat → Int32)) (x2 : Int32) : Option (Int32 × Int32 × Int32 × (Nat → Int32) × (Nat → Int32)) :=
  bn (fX9_root N Mh Mn Mm Mt (0 : Int32) x2) (fun v113 =>
    some (v113, Mh, Mn, Mt, Mw))
def fX9_loadNecklace_B84 (N : Nat) (Mm : Int32) (k84 : Int32 → Int32 → (Nat → Int32) → (Nat → Int32) → Int32 → Int32 → Option (Int32 × Int32 × Int32 × (Nat → Int32) × (Nat → Int32))) (Mh : Int32) (Mn : Int32) (Mt : (Nat → Int32)) (Mw : (Nat → Int32)) (x2 : Int32) (x6 : Int32) : Option (Int32 × Int32 × Int32 × (Nat → Int32) × (Nat → Int32)) :=
  if x2 ≤ x6 then
    fX9_loadNecklace_J110 N Mm Mh Mn Mt Mw x2
  else
    gd (inb x6 8) (
      gd (inb x6 64) (
        k84 Mh Mn (upd Mt (x6).toNatClampNeg (Mw (x6).toNatClampNeg)) Mw x2 (x6 + 1)))
def fX9_loadNecklace_H84 (N : Nat) (Mm : Int32) : Nat → Int32 → Int32 → (Nat → Int32) → (Nat → Int32) → Int32 → Int32 → Option (Int32 × Int32 × Int32 × (Nat → Int32) × (Nat → Int32))
  | 0, _, _, _, _, _, _ => none
  | n + 1, Mh, Mn, Mt, Mw, x2, x6 => fX9_loadNecklace_B84 N Mm (fX9_loadNecklace_H84 N Mm n) Mh Mn Mt Mw x2 x6
def fX9_loadNecklace_J60 (N : Nat) (Mm : Int32) (Mh : Int32) (Mn : Int32) (Mt : (Nat → Int32)) (Mw : (Nat → Int32)) (x1 : Int32) (x2 : Int32) (x5 : Int32) (y1 : Int32) : Option (Int32 × Int32 × Int32 × (Nat → Int32) × (Nat → Int32)) :=
  bn (fX9_goesWell N Mh Mn Mm y1) (fun v60 =>
    if v60.1 = 0 then
      some ((0 : Int32), v60.2, Mn, Mt, Mw)
    else
      bn (fX9_layWord N v60.2 Mn Mm Mw x5 x1 x2) (fun v73 =>
        fX9_loadNecklace_H84 N Mm N v60.2 x2 Mt v73 x2 (0 : Int32)))
def fX9_loadNecklace_J46 (N : Nat) (Mm : Int32) (Mh : Int32) (Mn : Int32) (Mt : (Nat → Int32)) (Mw : (Nat → Int32)) (x1 : Int32) (x2 : Int32) (y0 : Int32) : Option (Int32 × Int32 × Int32 × (Nat → Int32) × (Nat → Int32)) :=
  if y0 = (-1 : Int32) then
    fX9_loadNecklace_J60 N Mm Mh Mn Mt Mw x1 x2 y0 (1 : Int32)
  else
    fX9_loadNecklace_J60 N Mm Mh Mn Mt Mw x1 x2 y0 (0 : Int32)
def fX9_loadNecklace_J28 (N : Nat) (Mm : Int32) (Mh : Int32) (Mn : Int32) (Mt : (Nat → Int32)) (Mw : (Nat → Int32)) (x1 : Int32) (x2 : Int32) (x3 : Int32) (y0 : Int32) : Option (Int32 × Int32 × Int32 × (Nat → Int32) × (Nat → Int32)) :=
  if y0 = 0 then
    fX9_loadNecklace_J46 N Mm Mh Mn Mt Mw x1 x2 (-1 : Int32)
  else
    bn (fX9_necklaceWith N Mh Mn Mm Mw x1 x2 x3) (fun v39 =>
      fX9_loadNecklace_J46 N Mm Mh Mn Mt v39.2 x1 x2 v39.1)
def fX9_loadNecklace_J27 (N : Nat) (Mm : Int32) (Mh : Int32) (Mn : Int32) (Mt : (Nat → Int32)) (Mw : (Nat → Int32)) (x1 : Int32) (x2 : Int32) (x3 : Int32) : Option (Int32 × Int32 × Int32 × (Nat → Int32) × (Nat → Int32)) :=
  fX9_loadNecklace_J28 N Mm Mh Mn Mt Mw x1 x2 x3 (0 : Int32)
def fX9_loadNecklace (N : Nat) (Mh : Int32) (Mn : Int32) (Mm : Int32) (Mt : (Nat → Int32)) (Mw : (Nat → Int32)) (p1 : Int32) (p2 : Int32) (p3 : Int32) : Option (Int32 × Int32 × Int32 × (Nat → Int32) × (Nat → Int32)) :=
  bn (fX9_in N p1 (1 : Int32) (4 : Int32)) (fun v3 =>
    if v3 = 0 then
      fX9_loadNecklace_J27 N Mm Mh Mn Mt Mw p1 p2 p3
    else
      bn (fX9_in N p2 (1 : Int32) (8 : Int32)) (fun v13 =>
        if v13 = 0 then
          fX9_loadNecklace_J27 N Mm Mh Mn Mt Mw p1 p2 p3
        else
          if p3 < 0 then
            fX9_loadNecklace_J27 N Mm Mh Mn Mt Mw p1 p2 p3
          else
            fX9_loadNecklace_J28 N Mm Mh Mn Mt Mw p1 p2 p3 (1 : Int32)))
def fX9_length (N : Nat) (Mh : Int32) (Mn : Int32) (Mm : Int32) : Option (Int32 × Int32) :=
  some (Mn, (0 : Int32))
def fX9_letterAt_J30 (N : Nat) (Mn : Int32) (Mm : Int32) (Mt : (Nat → Int32)) (Mh : Int32) (y0 : Int32) : Option (Int32 × Int32) :=
  some (y0, Mh)
def fX9_letterAt_J14 (N : Nat) (Mn : Int32) (Mm : Int32) (Mt : (Nat → Int32)) (Mh : Int32) (x1 : Int32) (y1 : Int32) : Option (Int32 × Int32) :=
  bn (fX9_goesWell N Mh Mn Mm y1) (fun v14 =>
    if v14.1 = 0 then
      fX9_letterAt_J30 N Mn Mm Mt v14.2 (0 : Int32)
    else
      gd (inb x1 64) (
        fX9_letterAt_J30 N Mn Mm Mt v14.2 (Mt (x1).toNatClampNeg)))
def fX9_letterAt (N : Nat) (Mh : Int32) (Mn : Int32) (Mm : Int32) (Mt : (Nat → Int32)) (p1 : Int32) : Option (Int32 × Int32) :=
  bn (fX9_isPlace N Mh Mn Mm p1) (fun v3 =>
    if v3 = 0 then
      fX9_letterAt_J14 N Mn Mm Mt Mh p1 (1 : Int32)
    else
      fX9_letterAt_J14 N Mn Mm Mt Mh p1 (0 : Int32))
def fX9_same_J47 (N : Nat) (Mh : Int32) (Mn : Int32) (Mm : Int32) (Mt : (Nat → Int32)) (x5 : Int32) : Option Int32 :=
  some x5
def fX9_same_B3 (N : Nat) (Mh : Int32) (Mn : Int32) (Mm : Int32) (Mt : (Nat → Int32)) (k3 : Int32 → Int32 → Int32 → Int32 → Int32 → Option Int32) (x1 : Int32) (x2 : Int32) (x3 : Int32) (x4 : Int32) (x5 : Int32) : Option Int32 :=
  if x2 ≤ (x1 + x5) then
    fX9_same_J47 N Mh Mn Mm Mt x5
  else
    if x4 ≤ (x3 + x5) then
      fX9_same_J47 N Mh Mn Mm Mt x5
    else
      gd (inb (x1 + x5) 64) (
        gd (inb (x3 + x5) 64) (
          if (Mt ((x1 + x5)).toNatClampNeg) = (Mt ((x3 + x5)).toNatClampNeg) then
            k3 x1 x2 x3 x4 (x5 + 1)
          else
            fX9_same_J47 N Mh Mn Mm Mt x5))
def fX9_same_H3 (N : Nat) (Mh : Int32) (Mn : Int32) (Mm : Int32) (Mt : (Nat → Int32)) : Nat → Int32 → Int32 → Int32 → Int32 → Int32 → Option Int32
  | 0, _, _, _, _, _ => none
  | n + 1, x1, x2, x3, x4, x5 => fX9_same_B3 N Mh Mn Mm Mt (fX9_same_H3 N Mh Mn Mm Mt n) x1 x2 x3 x4 x5
def fX9_same (N : Nat) (Mh : Int32) (Mn : Int32) (Mm : Int32) (Mt : (Nat → Int32)) (p1 : Int32) (p2 : Int32) (p3 : Int32) (p4 : Int32) : Option Int32 :=
  fX9_same_H3 N Mh Mn Mm Mt N p1 p2 p3 p4 (0 : Int32)
def fX9_order_J62 (N : Nat) (Mh : Int32) (Mn : Int32) (Mm : Int32) (Mt : (Nat → Int32)) (y0 : Int32) : Option Int32 :=
  some y0
def fX9_order_J63 (N : Nat) (Mh : Int32) (Mn : Int32) (Mm : Int32) (Mt : (Nat → Int32)) (x1 : Int32) (x2 : Int32) (x3 : Int32) (x4 : Int32) : Option Int32 :=
  some ((x2 - x1) - (x4 - x3))
def fX9_order (N : Nat) (Mh : Int32) (Mn : Int32) (Mm : Int32) (Mt : (Nat → Int32)) (p1 : Int32) (p2 : Int32) (p3 : Int32) (p4 : Int32) (p5 : Int32) : Option Int32 :=
  bn (fX9_same N Mh Mn Mm Mt p1 p2 p3 p4) (fun v6 =>
    if p2 ≤ (p1 + v6) then
      fX9_order_J63 N Mh Mn Mm Mt p1 p2 p3 p4
    else
      if p4 ≤ (p3 + v6) then
        fX9_order_J63 N Mh Mn Mm Mt p1 p2 p3 p4
      else
        gd (inb (p1 + v6) 64) (
          gd (inb (p3 + v6) 64) (
            if p5 = 0 then
              fX9_order_J62 N Mh Mn Mm Mt ((Mt ((p1 + v6)).toNatClampNeg) - (Mt ((p3 + v6)).toNatClampNeg))
            else
              fX9_order_J62 N Mh Mn Mm Mt (-((Mt ((p1 + v6)).toNatClampNeg) - (Mt ((p3 + v6)).toNatClampNeg))))))
def fX9_compare_J64 (N : Nat) (Mn : Int32) (Mm : Int32) (Mt : (Nat → Int32)) (Mh : Int32) (y0 : Int32) : Option (Int32 × Int32) :=
  some (y0, Mh)
def fX9_compare_J25 (N : Nat) (Mn : Int32) (Mm : Int32) (Mt : (Nat → Int32)) (Mh : Int32) (x1 : Int32) (x2 : Int32) (x3 : Int32) (x4 : Int32) (y1 : Int32) : Option (Int32 × Int32) :=
  bn (fX9_goesWell N Mh Mn Mm y1) (fun v25 =>
    if v25.1 = 0 then
      some ((0 : Int32), v25.2)
    else
      bn (fX9_order N v25.2 Mn Mm Mt x1 x2 x3 x4 (0 : Int32)) (fun v40 =>
        if 0 ≤ v40 then
          if v40 ≤ 0 then
            fX9_compare_J64 N Mn Mm Mt v25.2 (0 : Int32)
          else
            fX9_compare_J64 N Mn Mm Mt v25.2 (1 : Int32)
        else
          fX9_compare_J64 N Mn Mm Mt v25.2 (-1 : Int32)))
def fX9_compare_J24 (N : Nat) (Mn : Int32) (Mm : Int32) (Mt : (Nat → Int32)) (Mh : Int32) (x1 : Int32) (x2 : Int32) (x3 : Int32) (x4 : Int32) : Option (Int32 × Int32) :=
  fX9_compare_J25 N Mn Mm Mt Mh x1 x2 x3 x4 (1 : Int32)
def fX9_compare (N : Nat) (Mh : Int32) (Mn : Int32) (Mm : Int32) (Mt : (Nat → Int32)) (p1 : Int32) (p2 : Int32) (p3 : Int32) (p4 : Int32) : Option (Int32 × Int32) :=
  bn (fX9_isPart N Mh Mn Mm p1 p2) (fun v4 =>
    if v4 = 0 then
      fX9_compare_J24 N Mn Mm Mt Mh p1 p2 p3 p4
    else
      bn (fX9_isPart N Mh Mn Mm p3 p4) (fun v14 =>
        if v14 = 0 then
          fX9_compare_J24 N Mn Mm Mt Mh p1 p2 p3 p4
        else
          fX9_compare_J25 N Mn Mm Mt Mh p1 p2 p3 p4 (0 : Int32)))
def fX9_commonPrefix_J54 (N : Nat) (Mn : Int32) (Mm : Int32) (Mt : (Nat → Int32)) (Mh : Int32) (y0 : Int32) : Option (Int32 × Int32) :=
  some (y0, Mh)
def fX9_commonPrefix_J30 (N : Nat) (Mn : Int32) (Mm : Int32) (Mt : (Nat → Int32)) (Mh : Int32) (x1 : Int32) (x2 : Int32) (y1 : Int32) : Option (Int32 × Int32) :=
  bn (fX9_goesWell N Mh Mn Mm y1) (fun v30 =>
    if v30.1 = 0 then
      fX9_commonPrefix_J54 N Mn Mm Mt v30.2 (0 : Int32)
    else
      bn (fX9_same N v30.2 Mn Mm Mt x1 Mn x2 Mn) (fun v47 =>
        fX9_commonPrefix_J54 N Mn Mm Mt v30.2 v47))
def fX9_commonPrefix_J29 (N : Nat) (Mn : Int32) (Mm : Int32) (Mt : (Nat → Int32)) (Mh : Int32) (x1 : Int32) (x2 : Int32) : Option (Int32 × Int32) :=
  fX9_commonPrefix_J30 N Mn Mm Mt Mh x1 x2 (1 : Int32)
def fX9_commonPrefix (N : Nat) (Mh : Int32) (Mn : Int32) (Mm : Int32) (Mt : (Nat → Int32)) (p1 : Int32) (p2 : Int32) : Option (Int32 × Int32) :=
  bn (fX9_in N p1 (0 : Int32) Mn) (fun v7 =>
    if v7 = 0 then
      fX9_commonPrefix_J29 N Mn Mm Mt Mh p1 p2
    else
      bn (fX9_in N p2 (0 : Int32) Mn) (fun v19 =>
        if v19 = 0 then
          fX9_commonPrefix_J29 N Mn Mm Mt Mh p1 p2
        else
          fX9_commonPrefix_J30 N Mn Mm Mt Mh p1 p2 (0 : Int32)))
def fX9_lyndonPart_J45 (N : Nat) (Mh : Int32) (Mn : Int32) (Mm : Int32) (Mt : (Nat → Int32)) (x4 : Int32) : Option Int32 :=
  gd (isB x4) (some x4)
def fX9_lyndonPart_J37 (N : Nat) (Mh : Int32) (Mn : Int32) (Mm : Int32) (Mt : (Nat → Int32)) (k8 : Int32 → Int32 → Int32 → Int32 → Int32 → Option Int32) (x1 : Int32) (x2 : Int32) (x3 : Int32) (x5 : Int32) (y0 : Int32) : Option Int32 :=
  k8 x1 x2 x3 y0 (x5 + 1)
def fX9_lyndonPart_J36 (N : Nat) (Mh : Int32) (Mn : Int32) (Mm : Int32) (Mt : (Nat → Int32)) (k8 : Int32 → Int32 → Int32 → Int32 → Int32 → Option Int32) (x1 : Int32) (x2 : Int32) (x3 : Int32) (x5 : Int32) : Option Int32 :=
  fX9_lyndonPart_J37 N Mh Mn Mm Mt k8 x1 x2 x3 x5 (0 : Int32)
def fX9_lyndonPart_B8 (N : Nat) (Mh : Int32) (Mn : Int32) (Mm : Int32) (Mt : (Nat → Int32)) (k8 : Int32 → Int32 → Int32 → Int32 → Int32 → Option Int32) (x1 : Int32) (x2 : Int32) (x3 : Int32) (x4 : Int32) (x5 : Int32) : Option Int32 :=
  if x2 ≤ x5 then
    fX9_lyndonPart_J45 N Mh Mn Mm Mt x4
  else
    if x4 = 0 then
      fX9_lyndonPart_J36 N Mh Mn Mm Mt k8 x1 x2 x3 x5
    else
      bn (fX9_order N Mh Mn Mm Mt x1 x2 x5 x2 x3) (fun v26 =>
        if 0 ≤ v26 then
          fX9_lyndonPart_J36 N Mh Mn Mm Mt k8 x1 x2 x3 x5
        else
          fX9_lyndonPart_J37 N Mh Mn Mm Mt k8 x1 x2 x3 x5 (1 : Int32))
def fX9_lyndonPart_H8 (N : Nat) (Mh : Int32) (Mn : Int32) (Mm : Int32) (Mt : (Nat → Int32)) : Nat → Int32 → Int32 → Int32 → Int32 → Int32 → Option Int32
  | 0, _, _, _, _, _ => none
  | n + 1, x1, x2, x3, x4, x5 => fX9_lyndonPart_B8 N Mh Mn Mm Mt (fX9_lyndonPart_H8 N Mh Mn Mm Mt n) x1 x2 x3 x4 x5
def fX9_lyndonPart (N : Nat) (Mh : Int32) (Mn : Int32) (Mm : Int32) (Mt : (Nat → Int32)) (p1 : Int32) (p2 : Int32) (p3 : Int32) : Option Int32 :=
  fX9_lyndonPart_H8 N Mh Mn Mm Mt N p1 p2 p3 (1 : Int32) (p1 + (1 : Int32))
def fX9_isLyndon_J36 (N : Nat) (Mn : Int32) (Mm : Int32) (Mt : (Nat → Int32)) (Mh : Int32) (y0 : Int32) : Option (Int32 × Int32) :=
  gd (isB y0) (some (y0, Mh))
def fX9_isLyndon_J35 (N : Nat) (Mn : Int32) (Mm : Int32) (Mt : (Nat → Int32)) (Mh : Int32) : Option (Int32 × Int32) :=
  fX9_isLyndon_J36 N Mn Mm Mt Mh (0 : Int32)
def fX9_isLyndon_J15 (N : Nat) (Mn : Int32) (Mm : Int32) (Mt : (Nat → Int32)) (Mh : Int32) (x1 : Int32) (x2 : Int32) (y1 : Int32) : Option (Int32 × Int32) :=
  bn (fX9_goesWell N Mh Mn Mm y1) (fun v15 =>
    if v15.1 = 0 then
      fX9_isLyndon_J35 N Mn Mm Mt v15.2
    else
      bn (fX9_lyndonPart N v15.2 Mn Mm Mt x1 x2 (0 : Int32)) (fun v25 =>
        if v25 = 0 then
          fX9_isLyndon_J35 N Mn Mm Mt v15.2
        else
          fX9_isLyndon_J36 N Mn Mm Mt v15.2 (1 : Int32)))
def fX9_isLyndon (N : Nat) (Mh : Int32) (Mn : Int32) (Mm : Int32) (Mt : (Nat → Int32)) (p1 : Int32) (p2 : Int32) : Option (Int32 × Int32) :=
  bn (fX9_isPart N Mh Mn Mm p1 p2) (fun v4 =>
    if v4 = 0 then
      fX9_isLyndon_J15 N Mn Mm Mt Mh p1 p2 (1 : Int32)
    else
      fX9_isLyndon_J15 N Mn Mm Mt Mh p1 p2 (0 : Int32))
def fX9_longest_J21 (N : Nat) (Mh : Int32) (Mn : Int32) (Mm : Int32) (Mt : (Nat → Int32)) (x1 : Int32) (x3 : Int32) : Option Int32 :=
  some (x3 - x1)
def fX9_longest_B5 (N : Nat) (Mh : Int32) (Mn : Int32) (Mm : Int32) (Mt : (Nat → Int32)) (k5 : Int32 → Int32 → Int32 → Option Int32) (x1 : Int32) (x2 : Int32) (x3 : Int32) : Option Int32 :=
  bn (fX9_lyndonPart N Mh Mn Mm Mt x1 x3 x2) (fun v9 =>
    if v9 = 0 then
      k5 x1 x2 (x3 + (-1 : Int32))
    else
      fX9_longest_J21 N Mh Mn Mm Mt x1 x3)
def fX9_longest_H5 (N : Nat) (Mh : Int32) (Mn : Int32) (Mm : Int32) (Mt : (Nat → Int32)) : Nat → Int32 → Int32 → Int32 → Option Int32
  | 0, _, _, _ => none
  | n + 1, x1, x2, x3 => fX9_longest_B5 N Mh Mn Mm Mt (fX9_longest_H5 N Mh Mn Mm Mt n) x1 x2 x3
def fX9_longest (N : Nat) (Mh : Int32) (Mn : Int32) (Mm : Int32) (Mt : (Nat → Int32)) (p1 : Int32) (p2 : Int32) : Option Int32 :=
  fX9_longest_H5 N Mh Mn Mm Mt N p1 p2 Mn
def fX9_startOf_J42 (N : Nat) (Mh : Int32) (Mn : Int32) (Mm : Int32) (Mt : (Nat → Int32)) (y0 : Int32) : Option Int32 :=
  some y0
def fX9_startOf_J32 (N : Nat) (Mh : Int32) (Mn : Int32) (Mm : Int32) (Mt : (Nat → Int32)) (x1 : Int32) (x2 : Int32) (x3 : Int32) : Option Int32 :=
  if x3 = x1 then
    fX9_startOf_J42 N Mh Mn Mm Mt x2
  else
    fX9_startOf_J42 N Mh Mn Mm Mt (-1 : Int32)
def fX9_startOf_B4 (N : Nat) (Mh : Int32) (Mn : Int32) (Mm : Int32) (Mt : (Nat → Int32)) (k4 : Int32 → Int32 → Int32 → Option Int32) (x1 : Int32) (x2 : Int32) (x3 : Int32) : Option Int32 :=
  if Mn ≤ x2 then
    fX9_startOf_J32 N Mh Mn Mm Mt x1 x2 x3
  else
    if x1 ≤ x3 then
      fX9_startOf_J32 N Mh Mn Mm Mt x1 x2 x3
    else
      bn (fX9_longest N Mh Mn Mm Mt x2 (0 : Int32)) (fun v21 =>
        k4 x1 (x2 + v21) (x3 + 1))
def fX9_startOf_H4 (N : Nat) (Mh : Int32) (Mn : Int32) (Mm : Int32) (Mt : (Nat → Int32)) : Nat → Int32 → Int32 → Int32 → Option Int32
  | 0, _, _, _ => none
  | n + 1, x1, x2, x3 => fX9_startOf_B4 N Mh Mn Mm Mt (fX9_startOf_H4 N Mh Mn Mm Mt n) x1 x2 x3
def fX9_startOf (N : Nat) (Mh : Int32) (Mn : Int32) (Mm : Int32) (Mt : (Nat → Int32)) (p1 : Int32) : Option Int32 :=
  fX9_startOf_H4 N Mh Mn Mm Mt N p1 (0 : Int32) (0 : Int32)
def fX9_factorMany_J27 (N : Nat) (Mh : Int32) (Mn : Int32) (Mm : Int32) (Mt : (Nat → Int32)) (x1 : Int32) : Option Int32 :=
  some x1
def fX9_factorMany_B4 (N : Nat) (Mh : Int32) (Mn : Int32) (Mm : Int32) (Mt : (Nat → Int32)) (k4 : Int32 → Int32 → Option Int32) (x1 : Int32) (x2 : Int32) : Option Int32 :=
  if Mn ≤ x2 then
    fX9_factorMany_J27 N Mh Mn Mm Mt x1
  else
    bn (fX9_longest N Mh Mn Mm Mt x2 (0 : Int32)) (fun v19 =>
      k4 (x1 + 1) (x2 + v19))
def fX9_factorMany_H4 (N : Nat) (Mh : Int32) (Mn : Int32) (Mm : Int32) (Mt : (Nat → Int32)) : Nat → Int32 → Int32 → Option Int32
  | 0, _, _ => none
  | n + 1, x1, x2 => fX9_factorMany_B4 N Mh Mn Mm Mt (fX9_factorMany_H4 N Mh Mn Mm Mt n) x1 x2
def fX9_factorMany (N : Nat) (Mh : Int32) (Mn : Int32) (Mm : Int32) (Mt : (Nat → Int32)) : Option Int32 :=
  fX9_factorMany_H4 N Mh Mn Mm Mt N (0 : Int32) (0 : Int32)
def fX9_factors (N : Nat) (Mh : Int32) (Mn : Int32) (Mm : Int32) (Mt : (Nat → Int32)) : Option (Int32 × Int32) :=
  bn (fX9_factorMany N (0 : Int32) Mn Mm Mt) (fun v6 =>
    some (v6, (0 : Int32)))
def fX9_factorStart_J35 (N : Nat) (Mn : Int32) (Mm : Int32) (Mt : (Nat → Int32)) (Mh : Int32) (y0 : Int32) : Option (Int32 × Int32) :=
  some (y0, Mh)
def fX9_factorStart_J20 (N : Nat) (Mn : Int32) (Mm : Int32) (Mt : (Nat → Int32)) (Mh : Int32) (x1 : Int32) (y1 : Int32) : Option (Int32 × Int32) :=
  bn (fX9_goesWell N Mh Mn Mm y1) (fun v20 =>
    if v20.1 = 0 then
      fX9_factorStart_J35 N Mn Mm Mt v20.2 (0 : Int32)
    else
      bn (fX9_startOf N v20.2 Mn Mm Mt x1) (fun v28 =>
        fX9_factorStart_J35 N Mn Mm Mt v20.2 v28))
def fX9_factorStart (N : Nat) (Mh : Int32) (Mn : Int32) (Mm : Int32) (Mt : (Nat → Int32)) (p1 : Int32) : Option (Int32 × Int32) :=
  bn (fX9_factorMany N Mh Mn Mm Mt) (fun v4 =>
    bn (fX9_in N p1 (0 : Int32) (v4 - (1 : Int32))) (fun v9 =>
      if v9 = 0 then
        fX9_factorStart_J20 N Mn Mm Mt Mh p1 (1 : Int32)
      else
        fX9_factorStart_J20 N Mn Mm Mt Mh p1 (0 : Int32)))
def fX9_factorLength_J40 (N : Nat) (Mn : Int32) (Mm : Int32) (Mt : (Nat → Int32)) (Mh : Int32) (y0 : Int32) : Option (Int32 × Int32) :=
  some (y0, Mh)
def fX9_factorLength_J20 (N : Nat) (Mn : Int32) (Mm : Int32) (Mt : (Nat → Int32)) (Mh : Int32) (x1 : Int32) (y1 : Int32) : Option (Int32 × Int32) :=
  bn (fX9_goesWell N Mh Mn Mm y1) (fun v20 =>
    if v20.1 = 0 then
      fX9_factorLength_J40 N Mn Mm Mt v20.2 (0 : Int32)
    else
      bn (fX9_startOf N v20.2 Mn Mm Mt x1) (fun v29 =>
        bn (fX9_longest N v20.2 Mn Mm Mt v29 (0 : Int32)) (fun v33 =>
          fX9_factorLength_J40 N Mn Mm Mt v20.2 v33)))
def fX9_factorLength (N : Nat) (Mh : Int32) (Mn : Int32) (Mm : Int32) (Mt : (Nat → Int32)) (p1 : Int32) : Option (Int32 × Int32) :=
  bn (fX9_factorMany N Mh Mn Mm Mt) (fun v4 =>
    bn (fX9_in N p1 (0 : Int32) (v4 - (1 : Int32))) (fun v9 =>
      if v9 = 0 then
        fX9_factorLength_J20 N Mn Mm Mt Mh p1 (1 : Int32)
      else
        fX9_factorLength_J20 N Mn Mm Mt Mh p1 (0 : Int32)))
def fX9_factorOver_J41 (N : Nat) (Mn : Int32) (Mm : Int32) (Mt : (Nat → Int32)) (Mh : Int32) (x2 : Int32) : Option (Int32 × Int32) :=
  some (x2, Mh)
def fX9_factorOver_B24 (N : Nat) (Mn : Int32) (Mm : Int32) (Mt : (Nat → Int32)) (k24 : Int32 → Int32 → Int32 → Option (Int32 × Int32)) (Mh : Int32) (x1 : Int32) (x2 : Int32) : Option (Int32 × Int32) :=
  bn (fX9_startOf N Mh Mn Mm Mt (x2 + (1 : Int32))) (fun v28 =>
    if x1 < v28 then
      fX9_factorOver_J41 N Mn Mm Mt Mh x2
    else
      k24 Mh x1 (x2 + 1))
def fX9_factorOver_H24 (N : Nat) (Mn : Int32) (Mm : Int32) (Mt : (Nat → Int32)) : Nat → Int32 → Int32 → Int32 → Option (Int32 × Int32)
  | 0, _, _, _ => none
  | n + 1, Mh, x1, x2 => fX9_factorOver_B24 N Mn Mm Mt (fX9_factorOver_H24 N Mn Mm Mt n) Mh x1 x2
def fX9_factorOver_J14 (N : Nat) (Mn : Int32) (Mm : Int32) (Mt : (Nat → Int32)) (Mh : Int32) (x1 : Int32) (y1 : Int32) : Option (Int32 × Int32) :=
  bn (fX9_goesWell N Mh Mn Mm y1) (fun v14 =>
    if v14.1 = 0 then
      some ((0 : Int32), v14.2)
    else
      fX9_factorOver_H24 N Mn Mm Mt N v14.2 x1 (0 : Int32))
def fX9_factorOver (N : Nat) (Mh : Int32) (Mn : Int32) (Mm : Int32) (Mt : (Nat → Int32)) (p1 : Int32) : Option (Int32 × Int32) :=
  bn (fX9_isPlace N Mh Mn Mm p1) (fun v3 =>
    if v3 = 0 then
      fX9_factorOver_J14 N Mn Mm Mt Mh p1 (1 : Int32)
    else
      fX9_factorOver_J14 N Mn Mm Mt Mh p1 (0 : Int32))
def fX9_longestLyndon_J30 (N : Nat) (Mn : Int32) (Mm : Int32) (Mt : (Nat → Int32)) (Mh : Int32) (y0 : Int32) : Option (Int32 × Int32) :=
  some (y0, Mh)
def fX9_longestLyndon_J14 (N : Nat) (Mn : Int32) (Mm : Int32) (Mt : (Nat → Int32)) (Mh : Int32) (x1 : Int32) (x2 : Int32) (y1 : Int32) : Option (Int32 × Int32) :=
  bn (fX9_goesWell N Mh Mn Mm y1) (fun v14 =>
    if v14.1 = 0 then
      fX9_longestLyndon_J30 N Mn Mm Mt v14.2 (0 : Int32)
    else
      bn (fX9_longest N v14.2 Mn Mm Mt x1 x2) (fun v23 =>
        fX9_longestLyndon_J30 N Mn Mm Mt v14.2 v23))
def fX9_longestLyndon (N : Nat) (Mh : Int32) (Mn : Int32) (Mm : Int32) (Mt : (Nat → Int32)) (p1 : Int32) (p2 : Int32) : Option (Int32 × Int32) :=
  bn (fX9_isPlace N Mh Mn Mm p1) (fun v3 =>
    if v3 = 0 then
      fX9_longestLyndon_J14 N Mn Mm Mt Mh p1 p2 (1 : Int32)
    else
      fX9_longestLyndon_J14 N Mn Mm Mt Mh p1 p2 (0 : Int32))
def fX9_standardFactor_J64 (N : Nat) (Mn : Int32) (Mm : Int32) (Mt : (Nat → Int32)) (Mh : Int32) (x3 : Int32) : Option (Int32 × Int32) :=
  some (x3, Mh)
def fX9_standardFactor_B48 (N : Nat) (Mn : Int32) (Mm : Int32) (Mt : (Nat → Int32)) (k48 : Int32 → Int32 → Int32 → Option (Int32 × Int32)) (Mh : Int32) (x2 : Int32) (x3 : Int32) : Option (Int32 × Int32) :=
  bn (fX9_lyndonPart N Mh Mn Mm Mt x3 x2 (0 : Int32)) (fun v52 =>
    if v52 = 0 then
      k48 Mh x2 (x3 + 1)
    else
      fX9_standardFactor_J64 N Mn Mm Mt Mh x3)
def fX9_standardFactor_H48 (N : Nat) (Mn : Int32) (Mm : Int32) (Mt : (Nat → Int32)) : Nat → Int32 → Int32 → Int32 → Option (Int32 × Int32)
  | 0, _, _, _ => none
  | n + 1, Mh, x2, x3 => fX9_standardFactor_B48 N Mn Mm Mt (fX9_standardFactor_H48 N Mn Mm Mt n) Mh x2 x3
def fX9_standardFactor_J36 (N : Nat) (Mn : Int32) (Mm : Int32) (Mt : (Nat → Int32)) (Mh : Int32) (x1 : Int32) (x2 : Int32) (y1 : Int32) : Option (Int32 × Int32) :=
  bn (fX9_goesWell N Mh Mn Mm y1) (fun v36 =>
    if v36.1 = 0 then
      some ((0 : Int32), v36.2)
    else
      fX9_standardFactor_H48 N Mn Mm Mt N v36.2 x2 (x1 + (1 : Int32)))
def fX9_standardFactor_J31 (N : Nat) (Mn : Int32) (Mm : Int32) (Mt : (Nat → Int32)) (Mh : Int32) (x1 : Int32) (x2 : Int32) : Option (Int32 × Int32) :=
  fX9_standardFactor_J36 N Mn Mm Mt Mh x1 x2 (2 : Int32)
def fX9_standardFactor (N : Nat) (Mh : Int32) (Mn : Int32) (Mm : Int32) (Mt : (Nat → Int32)) (p1 : Int32) (p2 : Int32) : Option (Int32 × Int32) :=
  bn (fX9_isPart N Mh Mn Mm p1 p2) (fun v4 =>
    if v4 = 0 then
      fX9_standardFactor_J36 N Mn Mm Mt Mh p1 p2 (1 : Int32)
    else
      if (p2 - p1) = (1 : Int32) then
        fX9_standardFactor_J31 N Mn Mm Mt Mh p1 p2
      else
        bn (fX9_lyndonPart N Mh Mn Mm Mt p1 p2 (0 : Int32)) (fun v25 =>
          if v25 = 0 then
            fX9_standardFactor_J31 N Mn Mm Mt Mh p1 p2
          else
            fX9_standardFactor_J36 N Mn Mm Mt Mh p1 p2 (0 : Int32)))
def fX9_turned_J94 (N : Nat) (Mh : Int32) (Mn : Int32) (Mm : Int32) (Mt : (Nat → Int32)) (y0 : Int32) : Option Int32 :=
  some y0
def fX9_turned_J53 (N : Nat) (Mh : Int32) (Mn : Int32) (Mm : Int32) (Mt : (Nat → Int32)) (x1 : Int32) (x3 : Int32) (x4 : Int32) (x5 : Int32) (x6 : Int32) : Option Int32 :=
  if x6 = x5 then
    fX9_turned_J94 N Mh Mn Mm Mt (0 : Int32)
  else
    gd (nz x5) (
      gd (inb (x1 + ((x6 + x3) - (x6 + x3) / x5 * x5)) 64) (
        gd (nz x5) (
          gd (inb (x1 + ((x6 + x4) - (x6 + x4) / x5 * x5)) 64) (
            fX9_turned_J94 N Mh Mn Mm Mt ((Mt ((x1 + ((x6 + x3) - (x6 + x3) / x5 * x5))).toNatClampNeg) - (Mt ((x1 + ((x6 + x4) - (x6 + x4) / x5 * x5))).toNatClampNeg))))))
def fX9_turned_B8 (N : Nat) (Mh : Int32) (Mn : Int32) (Mm : Int32) (Mt : (Nat → Int32)) (k8 : Int32 → Int32 → Int32 → Int32 → Int32 → Option Int32) (x1 : Int32) (x3 : Int32) (x4 : Int32) (x5 : Int32) (x6 : Int32) : Option Int32 :=
  if x5 ≤ x6 then
    fX9_turned_J53 N Mh Mn Mm Mt x1 x3 x4 x5 x6
  else
    gd (nz x5) (
      gd (inb (x1 + ((x6 + x3) - (x6 + x3) / x5 * x5)) 64) (
        gd (nz x5) (
          gd (inb (x1 + ((x6 + x4) - (x6 + x4) / x5 * x5)) 64) (
            if (Mt ((x1 + ((x6 + x3) - (x6 + x3) / x5 * x5))).toNatClampNeg) = (Mt ((x1 + ((x6 + x4) - (x6 + x4) / x5 * x5))).toNatClampNeg) then
              k8 x1 x3 x4 x5 (x6 + 1)
            else
              fX9_turned_J53 N Mh Mn Mm Mt x1 x3 x4 x5 x6))))
def fX9_turned_H8 (N : Nat) (Mh : Int32) (Mn : Int32) (Mm : Int32) (Mt : (Nat → Int32)) : Nat → Int32 → Int32 → Int32 → Int32 → Int32 → Option Int32
  | 0, _, _, _, _, _ => none
  | n + 1, x1, x3, x4, x5, x6 => fX9_turned_B8 N Mh Mn Mm Mt (fX9_turned_H8 N Mh Mn Mm Mt n) x1 x3 x4 x5 x6
def fX9_turned (N : Nat) (Mh : Int32) (Mn : Int32) (Mm : Int32) (Mt : (Nat → Int32)) (p1 : Int32) (p2 : Int32) (p3 : Int32) (p4 : Int32) : Option Int32 :=
  fX9_turned_H8 N Mh Mn Mm Mt N p1 p3 p4 (p2 - p1) (0 : Int32)
def fX9_least_J38 (N : Nat) (Mh : Int32) (Mn : Int32) (Mm : Int32) (Mt : (Nat → Int32)) (x3 : Int32) : Option Int32 :=
  some x3
def fX9_least_J31 (N : Nat) (Mh : Int32) (Mn : Int32) (Mm : Int32) (Mt : (Nat → Int32)) (k5 : Int32 → Int32 → Int32 → Int32 → Option Int32) (x1 : Int32) (x2 : Int32) (x4 : Int32) (y0 : Int32) : Option Int32 :=
  k5 x1 x2 y0 (x4 + 1)
def fX9_least_B5 (N : Nat) (Mh : Int32) (Mn : Int32) (Mm : Int32) (Mt : (Nat → Int32)) (k5 : Int32 → Int32 → Int32 → Int32 → Option Int32) (x1 : Int32) (x2 : Int32) (x3 : Int32) (x4 : Int32) : Option Int32 :=
  if (x2 - x1) ≤ x4 then
    fX9_least_J38 N Mh Mn Mm Mt x3
  else
    bn (fX9_turned N Mh Mn Mm Mt x1 x2 x4 x3) (fun v19 =>
      if 0 ≤ v19 then
        fX9_least_J31 N Mh Mn Mm Mt k5 x1 x2 x4 x3
      else
        fX9_least_J31 N Mh Mn Mm Mt k5 x1 x2 x4 x4)
def fX9_least_H5 (N : Nat) (Mh : Int32) (Mn : Int32) (Mm : Int32) (Mt : (Nat → Int32)) : Nat → Int32 → Int32 → Int32 → Int32 → Option Int32
  | 0, _, _, _, _ => none
  | n + 1, x1, x2, x3, x4 => fX9_least_B5 N Mh Mn Mm Mt (fX9_least_H5 N Mh Mn Mm Mt n) x1 x2 x3 x4
def fX9_least (N : Nat) (Mh : Int32) (Mn : Int32) (Mm : Int32) (Mt : (Nat → Int32)) (p1 : Int32) (p2 : Int32) : Option Int32 :=
  fX9_least_H5 N Mh Mn Mm Mt N p1 p2 (0 : Int32) (1 : Int32)
def fX9_leastRotation_J31 (N : Nat) (Mn : Int32) (Mm : Int32) (Mt : (Nat → Int32)) (Mh : Int32) (y0 : Int32) : Option (Int32 × Int32) :=
  some (y0, Mh)
def fX9_leastRotation_J15 (N : Nat) (Mn : Int32) (Mm : Int32) (Mt : (Nat → Int32)) (Mh : Int32) (x1 : Int32) (x2 : Int32) (y1 : Int32) : Option (Int32 × Int32) :=
  bn (fX9_goesWell N Mh Mn Mm y1) (fun v15 =>
    if v15.1 = 0 then
      fX9_leastRotation_J31 N Mn Mm Mt v15.2 (0 : Int32)
    else
      bn (fX9_least N v15.2 Mn Mm Mt x1 x2) (fun v24 =>
        fX9_leastRotation_J31 N Mn Mm Mt v15.2 v24))
def fX9_leastRotation (N : Nat) (Mh : Int32) (Mn : Int32) (Mm : Int32) (Mt : (Nat → Int32)) (p1 : Int32) (p2 : Int32) : Option (Int32 × Int32) :=
  bn (fX9_isPart N Mh Mn Mm p1 p2) (fun v4 =>
    if v4 = 0 then
      fX9_leastRotation_J15 N Mn Mm Mt Mh p1 p2 (1 : Int32)
    else
      fX9_leastRotation_J15 N Mn Mm Mt Mh p1 p2 (0 : Int32))
def fX9_greatestRotation_J61 (N : Nat) (Mn : Int32) (Mm : Int32) (Mt : (Nat → Int32)) (Mh : Int32) (x3 : Int32) : Option (Int32 × Int32) :=
  some (x3, Mh)
def fX9_greatestRotation_J54 (N : Nat) (Mn : Int32) (Mm : Int32) (Mt : (Nat → Int32)) (k28 : Int32 → Int32 → Int32 → Int32 → Int32 → Option (Int32 × Int32)) (Mh : Int32) (x1 : Int32) (x2 : Int32) (x4 : Int32) (y0 : Int32) : Option (Int32 × Int32) :=
  k28 Mh x1 x2 y0 (x4 + 1)
def fX9_greatestRotation_B28 (N : Nat) (Mn : Int32) (Mm : Int32) (Mt : (Nat → Int32)) (k28 : Int32 → Int32 → Int32 → Int32 → Int32 → Option (Int32 × Int32)) (Mh : Int32) (x1 : Int32) (x2 : Int32) (x3 : Int32) (x4 : Int32) : Option (Int32 × Int32) :=
  if (x2 - x1) ≤ x4 then
    fX9_greatestRotation_J61 N Mn Mm Mt Mh x3
  else
    bn (fX9_turned N Mh Mn Mm Mt x1 x2 x4 x3) (fun v42 =>
      if v42 ≤ 0 then
        fX9_greatestRotation_J54 N Mn Mm Mt k28 Mh x1 x2 x4 x3
      else
        fX9_greatestRotation_J54 N Mn Mm Mt k28 Mh x1 x2 x4 x4)
def fX9_greatestRotation_H28 (N : Nat) (Mn : Int32) (Mm : Int32) (Mt : (Nat → Int32)) : Nat → Int32 → Int32 → Int32 → Int32 → Int32 → Option (Int32 × Int32)
  | 0, _, _, _, _, _ => none
  | n + 1, Mh, x1, x2, x3, x4 => fX9_greatestRotation_B28 N Mn Mm Mt (fX9_greatestRotation_H28 N Mn Mm Mt n) Mh x1 x2 x3 x4
def fX9_greatestRotation_J15 (N : Nat) (Mn : Int32) (Mm : Int32) (Mt : (Nat → Int32)) (Mh : Int32) (x1 : Int32) (x2 : Int32) (y1 : Int32) : Option (Int32 × Int32) :=
  bn (fX9_goesWell N Mh Mn Mm y1) (fun v15 =>
    if v15.1 = 0 then
      some ((0 : Int32), v15.2)
    else
      fX9_greatestRotation_H28 N Mn Mm Mt N v15.2 x1 x2 (0 : Int32) (1 : Int32))
def fX9_greatestRotation (N : Nat) (Mh : Int32) (Mn : Int32) (Mm : Int32) (Mt : (Nat → Int32)) (p1 : Int32) (p2 : Int32) : Option (Int32 × Int32) :=
  bn (fX9_isPart N Mh Mn Mm p1 p2) (fun v4 =>
    if v4 = 0 then
      fX9_greatestRotation_J15 N Mn Mm Mt Mh p1 p2 (1 : Int32)
    else
      fX9_greatestRotation_J15 N Mn Mm Mt Mh p1 p2 (0 : Int32))
def fX9_rotations_J99 (N : Nat) (Mn : Int32) (Mm : Int32) (Mt : (Nat → Int32)) (Mh : Int32) (x3 : Int32) : Option (Int32 × Int32) :=
  some (x3, Mh)
def fX9_rotations_J91 (N : Nat) (Mn : Int32) (Mm : Int32) (Mt : (Nat → Int32)) (k28 : Int32 → Int32 → Int32 → Int32 → Int32 → Option (Int32 × Int32)) (Mh : Int32) (x1 : Int32) (x2 : Int32) (x4 : Int32) (y0 : Int32) (y1 : Int32) : Option (Int32 × Int32) :=
  k28 Mh x1 x2 (y0 + y1) (x4 + 1)
def fX9_rotations_J80 (N : Nat) (Mn : Int32) (Mm : Int32) (Mt : (Nat → Int32)) (k28 : Int32 → Int32 → Int32 → Int32 → Int32 → Option (Int32 × Int32)) (Mh : Int32) (x1 : Int32) (x2 : Int32) (x3 : Int32) (x4 : Int32) (x5 : Int32) : Option (Int32 × Int32) :=
  if x5 = 0 then
    fX9_rotations_J91 N Mn Mm Mt k28 Mh x1 x2 x4 x3 (0 : Int32)
  else
    fX9_rotations_J91 N Mn Mm Mt k28 Mh x1 x2 x4 x3 (1 : Int32)
def fX9_rotations_J72 (N : Nat) (Mn : Int32) (Mm : Int32) (Mt : (Nat → Int32)) (k28 : Int32 → Int32 → Int32 → Int32 → Int32 → Option (Int32 × Int32)) (k42 : Int32 → Int32 → Int32 → Int32 → Int32 → Int32 → Int32 → Option (Int32 × Int32)) (Mh : Int32) (x1 : Int32) (x2 : Int32) (x3 : Int32) (x4 : Int32) (x6 : Int32) (y0 : Int32) : Option (Int32 × Int32) :=
  k42 Mh x1 x2 x3 x4 y0 (x6 + 1)
def fX9_rotations_J71 (N : Nat) (Mn : Int32) (Mm : Int32) (Mt : (Nat → Int32)) (k28 : Int32 → Int32 → Int32 → Int32 → Int32 → Option (Int32 × Int32)) (k42 : Int32 → Int32 → Int32 → Int32 → Int32 → Int32 → Int32 → Option (Int32 × Int32)) (Mh : Int32) (x1 : Int32) (x2 : Int32) (x3 : Int32) (x4 : Int32) (x6 : Int32) : Option (Int32 × Int32) :=
  fX9_rotations_J72 N Mn Mm Mt k28 k42 Mh x1 x2 x3 x4 x6 (0 : Int32)
def fX9_rotations_B42 (N : Nat) (Mn : Int32) (Mm : Int32) (Mt : (Nat → Int32)) (k28 : Int32 → Int32 → Int32 → Int32 → Int32 → Option (Int32 × Int32)) (k42 : Int32 → Int32 → Int32 → Int32 → Int32 → Int32 → Int32 → Option (Int32 × Int32)) (Mh : Int32) (x1 : Int32) (x2 : Int32) (x3 : Int32) (x4 : Int32) (x5 : Int32) (x6 : Int32) : Option (Int32 × Int32) :=
  if x4 ≤ x6 then
    fX9_rotations_J80 N Mn Mm Mt k28 Mh x1 x2 x3 x4 x5
  else
    if x5 = 0 then
      fX9_rotations_J71 N Mn Mm Mt k28 k42 Mh x1 x2 x3 x4 x6
    else
      bn (fX9_turned N Mh Mn Mm Mt x1 x2 x4 x6) (fun v61 =>
        if v61 = 0 then
          fX9_rotations_J71 N Mn Mm Mt k28 k42 Mh x1 x2 x3 x4 x6
        else
          fX9_rotations_J72 N Mn Mm Mt k28 k42 Mh x1 x2 x3 x4 x6 (1 : Int32))
def fX9_rotations_H42 (N : Nat) (Mn : Int32) (Mm : Int32) (Mt : (Nat → Int32)) (k28 : Int32 → Int32 → Int32 → Int32 → Int32 → Option (Int32 × Int32)) : Nat → Int32 → Int32 → Int32 → Int32 → Int32 → Int32 → Int32 → Option (Int32 × Int32)
  | 0, _, _, _, _, _, _, _ => none
  | n + 1, Mh, x1, x2, x3, x4, x5, x6 => fX9_rotations_B42 N Mn Mm Mt k28 (fX9_rotations_H42 N Mn Mm Mt k28 n) Mh x1 x2 x3 x4 x5 x6
def fX9_rotations_B28 (N : Nat) (Mn : Int32) (Mm : Int32) (Mt : (Nat → Int32)) (k28 : Int32 → Int32 → Int32 → Int32 → Int32 → Option (Int32 × Int32)) (Mh : Int32) (x1 : Int32) (x2 : Int32) (x3 : Int32) (x4 : Int32) : Option (Int32 × Int32) :=
  if (x2 - x1) ≤ x4 then
    fX9_rotations_J99 N Mn Mm Mt Mh x3
  else
    fX9_rotations_H42 N Mn Mm Mt k28 N Mh x1 x2 x3 x4 (1 : Int32) (0 : Int32)
def fX9_rotations_H28 (N : Nat) (Mn : Int32) (Mm : Int32) (Mt : (Nat → Int32)) : Nat → Int32 → Int32 → Int32 → Int32 → Int32 → Option (Int32 × Int32)
  | 0, _, _, _, _, _ => none
  | n + 1, Mh, x1, x2, x3, x4 => fX9_rotations_B28 N Mn Mm Mt (fX9_rotations_H28 N Mn Mm Mt n) Mh x1 x2 x3 x4
def fX9_rotations_J15 (N : Nat) (Mn : Int32) (Mm : Int32) (Mt : (Nat → Int32)) (Mh : Int32) (x1 : Int32) (x2 : Int32) (y1 : Int32) : Option (Int32 × Int32) :=
  bn (fX9_goesWell N Mh Mn Mm y1) (fun v15 =>
    if v15.1 = 0 then
      some ((0 : Int32), v15.2)
    else
      fX9_rotations_H28 N Mn Mm Mt N v15.2 x1 x2 (0 : Int32) (0 : Int32))
def fX9_rotations (N : Nat) (Mh : Int32) (Mn : Int32) (Mm : Int32) (Mt : (Nat → Int32)) (p1 : Int32) (p2 : Int32) : Option (Int32 × Int32) :=
  bn (fX9_isPart N Mh Mn Mm p1 p2) (fun v4 =>
    if v4 = 0 then
      fX9_rotations_J15 N Mn Mm Mt Mh p1 p2 (1 : Int32)
    else
      fX9_rotations_J15 N Mn Mm Mt Mh p1 p2 (0 : Int32))
def fX9_isNecklace_J64 (N : Nat) (Mn : Int32) (Mm : Int32) (Mt : (Nat → Int32)) (Mh : Int32) (x3 : Int32) : Option (Int32 × Int32) :=
  gd (isB x3) (some (x3, Mh))
def fX9_isNecklace_J57 (N : Nat) (Mn : Int32) (Mm : Int32) (Mt : (Nat → Int32)) (k28 : Int32 → Int32 → Int32 → Int32 → Int32 → Option (Int32 × Int32)) (Mh : Int32) (x1 : Int32) (x2 : Int32) (x4 : Int32) (y0 : Int32) : Option (Int32 × Int32) :=
  k28 Mh x1 x2 y0 (x4 + 1)
def fX9_isNecklace_J56 (N : Nat) (Mn : Int32) (Mm : Int32) (Mt : (Nat → Int32)) (k28 : Int32 → Int32 → Int32 → Int32 → Int32 → Option (Int32 × Int32)) (Mh : Int32) (x1 : Int32) (x2 : Int32) (x4 : Int32) : Option (Int32 × Int32) :=
  fX9_isNecklace_J57 N Mn Mm Mt k28 Mh x1 x2 x4 (0 : Int32)
def fX9_isNecklace_B28 (N : Nat) (Mn : Int32) (Mm : Int32) (Mt : (Nat → Int32)) (k28 : Int32 → Int32 → Int32 → Int32 → Int32 → Option (Int32 × Int32)) (Mh : Int32) (x1 : Int32) (x2 : Int32) (x3 : Int32) (x4 : Int32) : Option (Int32 × Int32) :=
  if (x2 - x1) ≤ x4 then
    fX9_isNecklace_J64 N Mn Mm Mt Mh x3
  else
    if x3 = 0 then
      fX9_isNecklace_J56 N Mn Mm Mt k28 Mh x1 x2 x4
    else
      bn (fX9_turned N Mh Mn Mm Mt x1 x2 (0 : Int32) x4) (fun v46 =>
        if 0 < v46 then
          fX9_isNecklace_J56 N Mn Mm Mt k28 Mh x1 x2 x4
        else
          fX9_isNecklace_J57 N Mn Mm Mt k28 Mh x1 x2 x4 (1 : Int32))
def fX9_isNecklace_H28 (N : Nat) (Mn : Int32) (Mm : Int32) (Mt : (Nat → Int32)) : Nat → Int32 → Int32 → Int32 → Int32 → Int32 → Option (Int32 × Int32)
  | 0, _, _, _, _, _ => none
  | n + 1, Mh, x1, x2, x3, x4 => fX9_isNecklace_B28 N Mn Mm Mt (fX9_isNecklace_H28 N Mn Mm Mt n) Mh x1 x2 x3 x4
def fX9_isNecklace_J15 (N : Nat) (Mn : Int32) (Mm : Int32) (Mt : (Nat → Int32)) (Mh : Int32) (x1 : Int32) (x2 : Int32) (y1 : Int32) : Option (Int32 × Int32) :=
  bn (fX9_goesWell N Mh Mn Mm y1) (fun v15 =>
    if v15.1 = 0 then
      gd (isB (0 : Int32)) (some ((0 : Int32), v15.2))
    else
      fX9_isNecklace_H28 N Mn Mm Mt N v15.2 x1 x2 (1 : Int32) (1 : Int32))
def fX9_isNecklace (N : Nat) (Mh : Int32) (Mn : Int32) (Mm : Int32) (Mt : (Nat → Int32)) (p1 : Int32) (p2 : Int32) : Option (Int32 × Int32) :=
  bn (fX9_isPart N Mh Mn Mm p1 p2) (fun v4 =>
    if v4 = 0 then
      fX9_isNecklace_J15 N Mn Mm Mt Mh p1 p2 (1 : Int32)
    else
      fX9_isNecklace_J15 N Mn Mm Mt Mh p1 p2 (0 : Int32))
def fX9_leastPeriod_J18 (N : Nat) (Mh : Int32) (Mn : Int32) (Mm : Int32) (Mt : (Nat → Int32)) (x3 : Int32) : Option Int32 :=
  some x3
def fX9_leastPeriod_B2 (N : Nat) (Mh : Int32) (Mn : Int32) (Mm : Int32) (Mt : (Nat → Int32)) (k2 : Int32 → Int32 → Int32 → Option Int32) (x1 : Int32) (x2 : Int32) (x3 : Int32) : Option Int32 :=
  bn (fX9_hasPeriod N Mh Mn Mm Mt x1 x2 x3) (fun v6 =>
    if v6 = 0 then
      k2 x1 x2 (x3 + 1)
    else
      fX9_leastPeriod_J18 N Mh Mn Mm Mt x3)
def fX9_leastPeriod_H2 (N : Nat) (Mh : Int32) (Mn : Int32) (Mm : Int32) (Mt : (Nat → Int32)) : Nat → Int32 → Int32 → Int32 → Option Int32
  | 0, _, _, _ => none
  | n + 1, x1, x2, x3 => fX9_leastPeriod_B2 N Mh Mn Mm Mt (fX9_leastPeriod_H2 N Mh Mn Mm Mt n) x1 x2 x3
def fX9_leastPeriod (N : Nat) (Mh : Int32) (Mn : Int32) (Mm : Int32) (Mt : (Nat → Int32)) (p1 : Int32) (p2 : Int32) : Option Int32 :=
  fX9_leastPeriod_H2 N Mh Mn Mm Mt N p1 p2 (1 : Int32)
def fX9_period_J31 (N : Nat) (Mn : Int32) (Mm : Int32) (Mt : (Nat → Int32)) (Mh : Int32) (y0 : Int32) : Option (Int32 × Int32) :=
  some (y0, Mh)
def fX9_period_J15 (N : Nat) (Mn : Int32) (Mm : Int32) (Mt : (Nat → Int32)) (Mh : Int32) (x1 : Int32) (x2 : Int32) (y1 : Int32) : Option (Int32 × Int32) :=
  bn (fX9_goesWell N Mh Mn Mm y1) (fun v15 =>
    if v15.1 = 0 then
      fX9_period_J31 N Mn Mm Mt v15.2 (0 : Int32)
    else
      bn (fX9_leastPeriod N v15.2 Mn Mm Mt x1 x2) (fun v24 =>
        fX9_period_J31 N Mn Mm Mt v15.2 v24))
def fX9_period (N : Nat) (Mh : Int32) (Mn : Int32) (Mm : Int32) (Mt : (Nat → Int32)) (p1 : Int32) (p2 : Int32) : Option (Int32 × Int32) :=
  bn (fX9_isPart N Mh Mn Mm p1 p2) (fun v4 =>
    if v4 = 0 then
      fX9_period_J15 N Mn Mm Mt Mh p1 p2 (1 : Int32)
    else
      fX9_period_J15 N Mn Mm Mt Mh p1 p2 (0 : Int32))
def fX9_periodByTrying_J31 (N : Nat) (Mn : Int32) (Mm : Int32) (Mt : (Nat → Int32)) (Mh : Int32) (y0 : Int32) : Option (Int32 × Int32) :=
  some (y0, Mh)
def fX9_periodByTrying_J15 (N : Nat) (Mn : Int32) (Mm : Int32) (Mt : (Nat → Int32)) (Mh : Int32) (x1 : Int32) (x2 : Int32) (y1 : Int32) : Option (Int32 × Int32) :=
  bn (fX9_goesWell N Mh Mn Mm y1) (fun v15 =>
    if v15.1 = 0 then
      fX9_periodByTrying_J31 N Mn Mm Mt v15.2 (0 : Int32)
    else
      bn (fX9_leastPeriod N v15.2 Mn Mm Mt x1 x2) (fun v24 =>
        fX9_periodByTrying_J31 N Mn Mm Mt v15.2 v24))
def fX9_periodByTrying (N : Nat) (Mh : Int32) (Mn : Int32) (Mm : Int32) (Mt : (Nat → Int32)) (p1 : Int32) (p2 : Int32) : Option (Int32 × Int32) :=
  bn (fX9_isPart N Mh Mn Mm p1 p2) (fun v4 =>
    if v4 = 0 then
      fX9_periodByTrying_J15 N Mn Mm Mt Mh p1 p2 (1 : Int32)
    else
      fX9_periodByTrying_J15 N Mn Mm Mt Mh p1 p2 (0 : Int32))
def fX9_isPeriod_J51 (N : Nat) (Mn : Int32) (Mm : Int32) (Mt : (Nat → Int32)) (Mh : Int32) (y0 : Int32) : Option (Int32 × Int32) :=
  gd (isB y0) (some (y0, Mh))
def fX9_isPeriod_J50 (N : Nat) (Mn : Int32) (Mm : Int32) (Mt : (Nat → Int32)) (Mh : Int32) : Option (Int32 × Int32) :=
  fX9_isPeriod_J51 N Mn Mm Mt Mh (0 : Int32)
def fX9_isPeriod_J30 (N : Nat) (Mn : Int32) (Mm : Int32) (Mt : (Nat → Int32)) (Mh : Int32) (x1 : Int32) (x2 : Int32) (x3 : Int32) (y1 : Int32) : Option (Int32 × Int32) :=
  bn (fX9_goesWell N Mh Mn Mm y1) (fun v30 =>
    if v30.1 = 0 then
      fX9_isPeriod_J50 N Mn Mm Mt v30.2
    else
      bn (fX9_hasPeriod N v30.2 Mn Mm Mt x1 x2 x3) (fun v40 =>
        if v40 = 0 then
          fX9_isPeriod_J50 N Mn Mm Mt v30.2
        else
          fX9_isPeriod_J51 N Mn Mm Mt v30.2 (1 : Int32)))
def fX9_isPeriod (N : Nat) (Mh : Int32) (Mn : Int32) (Mm : Int32) (Mt : (Nat → Int32)) (p1 : Int32) (p2 : Int32) (p3 : Int32) : Option (Int32 × Int32) :=
  bn (fX9_isPart N Mh Mn Mm p1 p2) (fun v4 =>
    if v4 = 0 then
      fX9_isPeriod_J30 N Mn Mm Mt Mh p1 p2 p3 (1 : Int32)
    else
      bn (fX9_in N p3 (1 : Int32) (p2 - p1)) (fun v19 =>
        if v19 = 0 then
          fX9_isPeriod_J30 N Mn Mm Mt Mh p1 p2 p3 (2 : Int32)
        else
          fX9_isPeriod_J30 N Mn Mm Mt Mh p1 p2 p3 (0 : Int32)))
def fX9_periods_J61 (N : Nat) (Mn : Int32) (Mm : Int32) (Mt : (Nat → Int32)) (Mh : Int32) (x3 : Int32) : Option (Int32 × Int32) :=
  some (x3, Mh)
def fX9_periods_J53 (N : Nat) (Mn : Int32) (Mm : Int32) (Mt : (Nat → Int32)) (k28 : Int32 → Int32 → Int32 → Int32 → Int32 → Option (Int32 × Int32)) (Mh : Int32) (x1 : Int32) (x2 : Int32) (x4 : Int32) (y0 : Int32) (y1 : Int32) : Option (Int32 × Int32) :=
  k28 Mh x1 x2 (y0 + y1) (x4 + 1)
def fX9_periods_B28 (N : Nat) (Mn : Int32) (Mm : Int32) (Mt : (Nat → Int32)) (k28 : Int32 → Int32 → Int32 → Int32 → Int32 → Option (Int32 × Int32)) (Mh : Int32) (x1 : Int32) (x2 : Int32) (x3 : Int32) (x4 : Int32) : Option (Int32 × Int32) :=
  if (x2 - x1) < x4 then
    fX9_periods_J61 N Mn Mm Mt Mh x3
  else
    bn (fX9_hasPeriod N Mh Mn Mm Mt x1 x2 x4) (fun v42 =>
      if v42 = 0 then
        fX9_periods_J53 N Mn Mm Mt k28 Mh x1 x2 x4 x3 (0 : Int32)
      else
        fX9_periods_J53 N Mn Mm Mt k28 Mh x1 x2 x4 x3 (1 : Int32))
def fX9_periods_H28 (N : Nat) (Mn : Int32) (Mm : Int32) (Mt : (Nat → Int32)) : Nat → Int32 → Int32 → Int32 → Int32 → Int32 → Option (Int32 × Int32)
  | 0, _, _, _, _, _ => none
  | n + 1, Mh, x1, x2, x3, x4 => fX9_periods_B28 N Mn Mm Mt (fX9_periods_H28 N Mn Mm Mt n) Mh x1 x2 x3 x4
def fX9_periods_J15 (N : Nat) (Mn : Int32) (Mm : Int32) (Mt : (Nat → Int32)) (Mh : Int32) (x1 : Int32) (x2 : Int32) (y1 : Int32) : Option (Int32 × Int32) :=
  bn (fX9_goesWell N Mh Mn Mm y1) (fun v15 =>
    if v15.1 = 0 then
      some ((0 : Int32), v15.2)
    else
      fX9_periods_H28 N Mn Mm Mt N v15.2 x1 x2 (0 : Int32) (1 : Int32))
def fX9_periods (N : Nat) (Mh : Int32) (Mn : Int32) (Mm : Int32) (Mt : (Nat → Int32)) (p1 : Int32) (p2 : Int32) : Option (Int32 × Int32) :=
  bn (fX9_isPart N Mh Mn Mm p1 p2) (fun v4 =>
    if v4 = 0 then
      fX9_periods_J15 N Mn Mm Mt Mh p1 p2 (1 : Int32)
    else
      fX9_periods_J15 N Mn Mm Mt Mh p1 p2 (0 : Int32))
def fX9_border_J51 (N : Nat) (Mn : Int32) (Mm : Int32) (Mt : (Nat → Int32)) (Mh : Int32) (x3 : Int32) : Option (Int32 × Int32) :=
  some (x3, Mh)
def fX9_border_B29 (N : Nat) (Mn : Int32) (Mm : Int32) (Mt : (Nat → Int32)) (k29 : Int32 → Int32 → Int32 → Int32 → Option (Int32 × Int32)) (Mh : Int32) (x1 : Int32) (x2 : Int32) (x3 : Int32) : Option (Int32 × Int32) :=
  bn (fX9_same N Mh Mn Mm Mt x1 (x1 + x3) (x2 - x3) x2) (fun v38 =>
    if x3 ≤ v38 then
      fX9_border_J51 N Mn Mm Mt Mh x3
    else
      k29 Mh x1 x2 (x3 + (-1 : Int32)))
def fX9_border_H29 (N : Nat) (Mn : Int32) (Mm : Int32) (Mt : (Nat → Int32)) : Nat → Int32 → Int32 → Int32 → Int32 → Option (Int32 × Int32)
  | 0, _, _, _, _ => none
  | n + 1, Mh, x1, x2, x3 => fX9_border_B29 N Mn Mm Mt (fX9_border_H29 N Mn Mm Mt n) Mh x1 x2 x3
def fX9_border_J15 (N : Nat) (Mn : Int32) (Mm : Int32) (Mt : (Nat → Int32)) (Mh : Int32) (x1 : Int32) (x2 : Int32) (y1 : Int32) : Option (Int32 × Int32) :=
  bn (fX9_goesWell N Mh Mn Mm y1) (fun v15 =>
    if v15.1 = 0 then
      some ((0 : Int32), v15.2)
    else
      fX9_border_H29 N Mn Mm Mt N v15.2 x1 x2 ((x2 - x1) - (1 : Int32)))
def fX9_border (N : Nat) (Mh : Int32) (Mn : Int32) (Mm : Int32) (Mt : (Nat → Int32)) (p1 : Int32) (p2 : Int32) : Option (Int32 × Int32) :=
  bn (fX9_isPart N Mh Mn Mm p1 p2) (fun v4 =>
    if v4 = 0 then
      fX9_border_J15 N Mn Mm Mt Mh p1 p2 (1 : Int32)
    else
      fX9_border_J15 N Mn Mm Mt Mh p1 p2 (0 : Int32))
def fX9_rootLength_J31 (N : Nat) (Mn : Int32) (Mm : Int32) (Mt : (Nat → Int32)) (Mh : Int32) (y0 : Int32) : Option (Int32 × Int32) :=
  some (y0, Mh)
def fX9_rootLength_J15 (N : Nat) (Mn : Int32) (Mm : Int32) (Mt : (Nat → Int32)) (Mh : Int32) (x1 : Int32) (x2 : Int32) (y1 : Int32) : Option (Int32 × Int32) :=
  bn (fX9_goesWell N Mh Mn Mm y1) (fun v15 =>
    if v15.1 = 0 then
      fX9_rootLength_J31 N Mn Mm Mt v15.2 (0 : Int32)
    else
      bn (fX9_root N v15.2 Mn Mm Mt x1 x2) (fun v24 =>
        fX9_rootLength_J31 N Mn Mm Mt v15.2 v24))
def fX9_rootLength (N : Nat) (Mh : Int32) (Mn : Int32) (Mm : Int32) (Mt : (Nat → Int32)) (p1 : Int32) (p2 : Int32) : Option (Int32 × Int32) :=
  bn (fX9_isPart N Mh Mn Mm p1 p2) (fun v4 =>
    if v4 = 0 then
      fX9_rootLength_J15 N Mn Mm Mt Mh p1 p2 (1 : Int32)
    else
      fX9_rootLength_J15 N Mn Mm Mt Mh p1 p2 (0 : Int32))
def fX9_exponent_J37 (N : Nat) (Mn : Int32) (Mm : Int32) (Mt : (Nat → Int32)) (Mh : Int32) (y0 : UInt64) : Option (UInt64 × Int32) :=
  some (y0, Mh)
def fX9_exponent_J15 (N : Nat) (Mn : Int32) (Mm : Int32) (Mt : (Nat → Int32)) (Mh : Int32) (x1 : Int32) (x2 : Int32) (y1 : Int32) : Option (UInt64 × Int32) :=
  bn (fX9_goesWell N Mh Mn Mm y1) (fun v15 =>
    if v15.1 = 0 then
      fX9_exponent_J37 N Mn Mm Mt v15.2 FP.dconst0
    else
      bn (fX9_leastPeriod N v15.2 Mn Mm Mt x1 x2) (fun v28 =>
        gd (nonan (FP.ddiv (FP.i2d (x2 - x1)) (FP.i2d v28))) (
          fX9_exponent_J37 N Mn Mm Mt v15.2 (FP.ddiv (FP.i2d (x2 - x1)) (FP.i2d v28)))))
def fX9_exponent (N : Nat) (Mh : Int32) (Mn : Int32) (Mm : Int32) (Mt : (Nat → Int32)) (p1 : Int32) (p2 : Int32) : Option (UInt64 × Int32) :=
  bn (fX9_isPart N Mh Mn Mm p1 p2) (fun v4 =>
    if v4 = 0 then
      fX9_exponent_J15 N Mn Mm Mt Mh p1 p2 (1 : Int32)
    else
      fX9_exponent_J15 N Mn Mm Mt Mh p1 p2 (0 : Int32))
def fX9_layRuns_J158 (N : Nat) (Mh : Int32) (Mn : Int32) (Mt : (Nat → Int32)) (Mm : Int32) (Ms : (Nat → Int32)) (Me : (Nat → Int32)) (Mp : (Nat → Int32)) : Option (Int32 × (Nat → Int32) × (Nat → Int32) × (Nat → Int32)) :=
  some (Mm, Ms, Me, Mp)
def fX9_layRuns_J152 (N : Nat) (Mh : Int32) (Mn : Int32) (Mt : (Nat → Int32)) (k7 : Int32 → (Nat → Int32) → (Nat → Int32) → (Nat → Int32) → Int32 → Option (Int32 × (Nat → Int32) × (Nat → Int32) × (Nat → Int32))) (Mm : Int32) (Ms : (Nat → Int32)) (Me : (Nat → Int32)) (Mp : (Nat → Int32)) (x1 : Int32) : Option (Int32 × (Nat → Int32) × (Nat → Int32) × (Nat → Int32)) :=
  k7 Mm Ms Me Mp (x1 + 1)
def fX9_layRuns_J146 (N : Nat) (Mh : Int32) (Mn : Int32) (Mt : (Nat → Int32)) (k7 : Int32 → (Nat → Int32) → (Nat → Int32) → (Nat → Int32) → Int32 → Option (Int32 × (Nat → Int32) × (Nat → Int32) × (Nat → Int32))) (k17 : Int32 → (Nat → Int32) → (Nat → Int32) → (Nat → Int32) → Int32 → Int32 → Option (Int32 × (Nat → Int32) × (Nat → Int32) × (Nat → Int32))) (Mm : Int32) (Ms : (Nat → Int32)) (Me : (Nat → Int32)) (Mp : (Nat → Int32)) (x1 : Int32) (x2 : Int32) : Option (Int32 × (Nat → Int32) × (Nat → Int32) × (Nat → Int32)) :=
  k17 Mm Ms Me Mp x1 (x2 + 1)
def fX9_layRuns_J80 (N : Nat) (Mh : Int32) (Mn : Int32) (Mt : (Nat → Int32)) (k7 : Int32 → (Nat → Int32) → (Nat → Int32) → (Nat → Int32) → Int32 → Option (Int32 × (Nat → Int32) × (Nat → Int32) × (Nat → Int32))) (k17 : Int32 → (Nat → Int32) → (Nat → Int32) → (Nat → Int32) → Int32 → Int32 → Option (Int32 × (Nat → Int32) × (Nat → Int32) × (Nat → Int32))) (Mm : Int32) (Ms : (Nat → Int32)) (Me : (Nat → Int32)) (Mp : (Nat → Int32)) (x1 : Int32) (x2 : Int32) (x3 : Int32) (y0 : Int32) : Option (Int32 × (Nat → Int32) × (Nat → Int32) × (Nat → Int32)) :=
  if (x3 - x1) < ((2 : Int32) * x2) then
    fX9_layRuns_J146 N Mh Mn Mt k7 k17 Mm Ms Me Mp x1 x2
  else
    if y0 = 0 then
      bn (fX9_leastPeriod N Mh Mn Mm Mt x1 x3) (fun v99 =>
        if v99 = x2 then
          gd (inb Mm 128) (
            gd (inb Mm 128) (
              gd (inb Mm 128) (
                fX9_layRuns_J146 N Mh Mn Mt k7 k17 (Mm + (1 : Int32)) (upd Ms (Mm).toNatClampNeg x1) (upd Me (Mm).toNatClampNeg x3) (upd Mp (Mm).toNatClampNeg x2) x1 x2)))
        else
          fX9_layRuns_J146 N Mh Mn Mt k7 k17 Mm Ms Me Mp x1 x2)
    else
      fX9_layRuns_J146 N Mh Mn Mt k7 k17 Mm Ms Me Mp x1 x2
def fX9_layRuns_J79 (N : Nat) (Mh : Int32) (Mn : Int32) (Mt : (Nat → Int32)) (k7 : Int32 → (Nat → Int32) → (Nat → Int32) → (Nat → Int32) → Int32 → Option (Int32 × (Nat → Int32) × (Nat → Int32) × (Nat → Int32))) (k17 : Int32 → (Nat → Int32) → (Nat → Int32) → (Nat → Int32) → Int32 → Int32 → Option (Int32 × (Nat → Int32) × (Nat → Int32) × (Nat → Int32))) (Mm : Int32) (Ms : (Nat → Int32)) (Me : (Nat → Int32)) (Mp : (Nat → Int32)) (x1 : Int32) (x2 : Int32) (x3 : Int32) : Option (Int32 × (Nat → Int32) × (Nat → Int32) × (Nat → Int32)) :=
  fX9_layRuns_J80 N Mh Mn Mt k7 k17 Mm Ms Me Mp x1 x2 x3 (0 : Int32)
def fX9_layRuns_B17 (N : Nat) (Mh : Int32) (Mn : Int32) (Mt : (Nat → Int32)) (k7 : Int32 → (Nat → Int32) → (Nat → Int32) → (Nat → Int32) → Int32 → Option (Int32 × (Nat → Int32) × (Nat → Int32) × (Nat → Int32))) (k17 : Int32 → (Nat → Int32) → (Nat → Int32) → (Nat → Int32) → Int32 → Int32 → Option (Int32 × (Nat → Int32) × (Nat → Int32) × (Nat → Int32))) (Mm : Int32) (Ms : (Nat → Int32)) (Me : (Nat → Int32)) (Mp : (Nat → Int32)) (x1 : Int32) (x2 : Int32) : Option (Int32 × (Nat → Int32) × (Nat → Int32) × (Nat → Int32)) :=
  if Mn < (x1 + ((2 : Int32) * x2)) then
    fX9_layRuns_J152 N Mh Mn Mt k7 Mm Ms Me Mp x1
  else
    bn (fX9_same N Mh Mn Mm Mt x1 Mn (x1 + x2) Mn) (fun v45 =>
      if x1 ≤ 0 then
        fX9_layRuns_J79 N Mh Mn Mt k7 k17 Mm Ms Me Mp x1 x2 ((x1 + x2) + v45)
      else
        gd (inb (x1 - (1 : Int32)) 64) (
          gd (inb ((x1 - (1 : Int32)) + x2) 64) (
            if (Mt ((x1 - (1 : Int32))).toNatClampNeg) = (Mt (((x1 - (1 : Int32)) + x2)).toNatClampNeg) then
              fX9_layRuns_J80 N Mh Mn Mt k7 k17 Mm Ms Me Mp x1 x2 ((x1 + x2) + v45) (1 : Int32)
            else
              fX9_layRuns_J79 N Mh Mn Mt k7 k17 Mm Ms Me Mp x1 x2 ((x1 + x2) + v45))))
def fX9_layRuns_H17 (N : Nat) (Mh : Int32) (Mn : Int32) (Mt : (Nat → Int32)) (k7 : Int32 → (Nat → Int32) → (Nat → Int32) → (Nat → Int32) → Int32 → Option (Int32 × (Nat → Int32) × (Nat → Int32) × (Nat → Int32))) : Nat → Int32 → (Nat → Int32) → (Nat → Int32) → (Nat → Int32) → Int32 → Int32 → Option (Int32 × (Nat → Int32) × (Nat → Int32) × (Nat → Int32))
  | 0, _, _, _, _, _, _ => none
  | n + 1, Mm, Ms, Me, Mp, x1, x2 => fX9_layRuns_B17 N Mh Mn Mt k7 (fX9_layRuns_H17 N Mh Mn Mt k7 n) Mm Ms Me Mp x1 x2
def fX9_layRuns_B7 (N : Nat) (Mh : Int32) (Mn : Int32) (Mt : (Nat → Int32)) (k7 : Int32 → (Nat → Int32) → (Nat → Int32) → (Nat → Int32) → Int32 → Option (Int32 × (Nat → Int32) × (Nat → Int32) × (Nat → Int32))) (Mm : Int32) (Ms : (Nat → Int32)) (Me : (Nat → Int32)) (Mp : (Nat → Int32)) (x1 : Int32) : Option (Int32 × (Nat → Int32) × (Nat → Int32) × (Nat → Int32)) :=
  if Mn ≤ x1 then
    fX9_layRuns_J158 N Mh Mn Mt Mm Ms Me Mp
  else
    fX9_layRuns_H17 N Mh Mn Mt k7 N Mm Ms Me Mp x1 (1 : Int32)
def fX9_layRuns_H7 (N : Nat) (Mh : Int32) (Mn : Int32) (Mt : (Nat → Int32)) : Nat → Int32 → (Nat → Int32) → (Nat → Int32) → (Nat → Int32) → Int32 → Option (Int32 × (Nat → Int32) × (Nat → Int32) × (Nat → Int32))
  | 0, _, _, _, _, _ => none
  | n + 1, Mm, Ms, Me, Mp, x1 => fX9_layRuns_B7 N Mh Mn Mt (fX9_layRuns_H7 N Mh Mn Mt n) Mm Ms Me Mp x1
def fX9_layRuns (N : Nat) (Mh : Int32) (Mn : Int32) (Mm : Int32) (Mt : (Nat → Int32)) (Ms : (Nat → Int32)) (Me : (Nat → Int32)) (Mp : (Nat → Int32)) : Option (Int32 × (Nat → Int32) × (Nat → Int32) × (Nat → Int32)) :=
  fX9_layRuns_H7 N Mh Mn Mt N (0 : Int32) Ms Me Mp (0 : Int32)
def fX9_isRun (N : Nat) (Mh : Int32) (Mn : Int32) (Mm : Int32) (Mt : (Nat → Int32)) (Ms : (Nat → Int32)) (Me : (Nat → Int32)) (Mp : (Nat → Int32)) (p1 : Int32) : Option (Int32 × Int32 × (Nat → Int32) × (Nat → Int32) × (Nat → Int32)) :=
  bn (fX9_layRuns N Mh Mn Mm Mt Ms Me Mp) (fun v1 =>
    bn (fX9_in N p1 (0 : Int32) (v1.1 - (1 : Int32))) (fun v12 =>
      gd (isB v12) (some (v12, v1.1, v1.2.1, v1.2.2.1, v1.2.2.2))))
def fX9_runs (N : Nat) (Mh : Int32) (Mn : Int32) (Mm : Int32) (Mt : (Nat → Int32)) (Ms : (Nat → Int32)) (Me : (Nat → Int32)) (Mp : (Nat → Int32)) : Option (Int32 × Int32 × Int32 × (Nat → Int32) × (Nat → Int32) × (Nat → Int32)) :=
  bn (fX9_layRuns N (0 : Int32) Mn Mm Mt Ms Me Mp) (fun v6 =>
    some (v6.1, (0 : Int32), v6.1, v6.2.1, v6.2.2.1, v6.2.2.2))
def fX9_runStart_J30 (N : Nat) (Mn : Int32) (Mt : (Nat → Int32)) (Mh : Int32) (Mm : Int32) (Ms : (Nat → Int32)) (Me : (Nat → Int32)) (Mp : (Nat → Int32)) (y0 : Int32) : Option (Int32 × Int32 × Int32 × (Nat → Int32) × (Nat → Int32) × (Nat → Int32)) :=
  some (y0, Mh, Mm, Ms, Me, Mp)
def fX9_runStart_J14 (N : Nat) (Mn : Int32) (Mt : (Nat → Int32)) (Mh : Int32) (Mm : Int32) (Ms : (Nat → Int32)) (Me : (Nat → Int32)) (Mp : (Nat → Int32)) (x1 : Int32) (y1 : Int32) : Option (Int32 × Int32 × Int32 × (Nat → Int32) × (Nat → Int32) × (Nat → Int32)) :=
  bn (fX9_goesWell N Mh Mn Mm y1) (fun v14 =>
    if v14.1 = 0 then
      fX9_runStart_J30 N Mn Mt v14.2 Mm Ms Me Mp (0 : Int32)
    else
      gd (inb x1 128) (
        fX9_runStart_J30 N Mn Mt v14.2 Mm Ms Me Mp (Ms (x1).toNatClampNeg)))
def fX9_runStart (N : Nat) (Mh : Int32) (Mn : Int32) (Mm : Int32) (Mt : (Nat → Int32)) (Ms : (Nat → Int32)) (Me : (Nat → Int32)) (Mp : (Nat → Int32)) (p1 : Int32) : Option (Int32 × Int32 × Int32 × (Nat → Int32) × (Nat → Int32) × (Nat → Int32)) :=
  bn (fX9_isRun N Mh Mn Mm Mt Ms Me Mp p1) (fun v3 =>
    if v3.1 = 0 then
      fX9_runStart_J14 N Mn Mt Mh v3.2.1 v3.2.2.1 v3.2.2.2.1 v3.2.2.2.2 p1 (1 : Int32)
    else
      fX9_runStart_J14 N Mn Mt Mh v3.2.1 v3.2.2.1 v3.2.2.2.1 v3.2.2.2.2 p1 (0 : Int32))
def fX9_runEnd_J30 (N : Nat) (Mn : Int32) (Mt : (Nat → Int32)) (Mh : Int32) (Mm : Int32) (Ms : (Nat → Int32)) (Me : (Nat → Int32)) (Mp : (Nat → Int32)) (y0 : Int32) : Option (Int32 × Int32 × Int32 × (Nat → Int32) × (Nat → Int32) × (Nat → Int32)) :=
  some (y0, Mh, Mm, Ms, Me, Mp)
def fX9_runEnd_J14 (N : Nat) (Mn : Int32) (Mt : (Nat → Int32)) (Mh : Int32) (Mm : Int32) (Ms : (Nat → Int32)) (Me : (Nat → Int32)) (Mp : (Nat → Int32)) (x1 : Int32) (y1 : Int32) : Option (Int32 × Int32 × Int32 × (Nat → Int32) × (Nat → Int32) × (Nat → Int32)) :=
  bn (fX9_goesWell N Mh Mn Mm y1) (fun v14 =>
    if v14.1 = 0 then
      fX9_runEnd_J30 N Mn Mt v14.2 Mm Ms Me Mp (0 : Int32)
    else
      gd (inb x1 128) (
        fX9_runEnd_J30 N Mn Mt v14.2 Mm Ms Me Mp (Me (x1).toNatClampNeg)))
def fX9_runEnd (N : Nat) (Mh : Int32) (Mn : Int32) (Mm : Int32) (Mt : (Nat → Int32)) (Ms : (Nat → Int32)) (Me : (Nat → Int32)) (Mp : (Nat → Int32)) (p1 : Int32) : Option (Int32 × Int32 × Int32 × (Nat → Int32) × (Nat → Int32) × (Nat → Int32)) :=
  bn (fX9_isRun N Mh Mn Mm Mt Ms Me Mp p1) (fun v3 =>
    if v3.1 = 0 then
      fX9_runEnd_J14 N Mn Mt Mh v3.2.1 v3.2.2.1 v3.2.2.2.1 v3.2.2.2.2 p1 (1 : Int32)
    else
      fX9_runEnd_J14 N Mn Mt Mh v3.2.1 v3.2.2.1 v3.2.2.2.1 v3.2.2.2.2 p1 (0 : Int32))
def fX9_runPeriod_J30 (N : Nat) (Mn : Int32) (Mt : (Nat → Int32)) (Mh : Int32) (Mm : Int32) (Ms : (Nat → Int32)) (Me : (Nat → Int32)) (Mp : (Nat → Int32)) (y0 : Int32) : Option (Int32 × Int32 × Int32 × (Nat → Int32) × (Nat → Int32) × (Nat → Int32)) :=
  some (y0, Mh, Mm, Ms, Me, Mp)
def fX9_runPeriod_J14 (N : Nat) (Mn : Int32) (Mt : (Nat → Int32)) (Mh : Int32) (Mm : Int32) (Ms : (Nat → Int32)) (Me : (Nat → Int32)) (Mp : (Nat → Int32)) (x1 : Int32) (y1 : Int32) : Option (Int32 × Int32 × Int32 × (Nat → Int32) × (Nat → Int32) × (Nat → Int32)) :=
  bn (fX9_goesWell N Mh Mn Mm y1) (fun v14 =>
    if v14.1 = 0 then
      fX9_runPeriod_J30 N Mn Mt v14.2 Mm Ms Me Mp (0 : Int32)
    else
      gd (inb x1 128) (
        fX9_runPeriod_J30 N Mn Mt v14.2 Mm Ms Me Mp (Mp (x1).toNatClampNeg)))
def fX9_runPeriod (N : Nat) (Mh : Int32) (Mn : Int32) (Mm : Int32) (Mt : (Nat → Int32)) (Ms : (Nat → Int32)) (Me : (Nat → Int32)) (Mp : (Nat → Int32)) (p1 : Int32) : Option (Int32 × Int32 × Int32 × (Nat → Int32) × (Nat → Int32) × (Nat → Int32)) :=
  bn (fX9_isRun N Mh Mn Mm Mt Ms Me Mp p1) (fun v3 =>
    if v3.1 = 0 then
      fX9_runPeriod_J14 N Mn Mt Mh v3.2.1 v3.2.2.1 v3.2.2.2.1 v3.2.2.2.2 p1 (1 : Int32)
    else
      fX9_runPeriod_J14 N Mn Mt Mh v3.2.1 v3.2.2.1 v3.2.2.2.1 v3.2.2.2.2 p1 (0 : Int32))
def fX9_runsOver_J72 (N : Nat) (Mn : Int32) (Mt : (Nat → Int32)) (Mh : Int32) (Mm : Int32) (Ms : (Nat → Int32)) (Me : (Nat → Int32)) (Mp : (Nat → Int32)) (x2 : Int32) : Option (Int32 × Int32 × Int32 × (Nat → Int32) × (Nat → Int32) × (Nat → Int32)) :=
  some (x2, Mh, Mm, Ms, Me, Mp)
def fX9_runsOver_J64 (N : Nat) (Mn : Int32) (Mt : (Nat → Int32)) (k30 : Int32 → Int32 → (Nat → Int32) → (Nat → Int32) → (Nat → Int32) → Int32 → Int32 → Int32 → Option (Int32 × Int32 × Int32 × (Nat → Int32) × (Nat → Int32) × (Nat → Int32))) (Mh : Int32) (Mm : Int32) (Ms : (Nat → Int32)) (Me : (Nat → Int32)) (Mp : (Nat → Int32)) (x1 : Int32) (x3 : Int32) (y0 : Int32) (y1 : Int32) : Option (Int32 × Int32 × Int32 × (Nat → Int32) × (Nat → Int32) × (Nat → Int32)) :=
  k30 Mh Mm Ms Me Mp x1 (y0 + y1) (x3 + 1)
def fX9_runsOver_J63 (N : Nat) (Mn : Int32) (Mt : (Nat → Int32)) (k30 : Int32 → Int32 → (Nat → Int32) → (Nat → Int32) → (Nat → Int32) → Int32 → Int32 → Int32 → Option (Int32 × Int32 × Int32 × (Nat → Int32) × (Nat → Int32) × (Nat → Int32))) (Mh : Int32) (Mm : Int32) (Ms : (Nat → Int32)) (Me : (Nat → Int32)) (Mp : (Nat → Int32)) (x1 : Int32) (x3 : Int32) (y0 : Int32) : Option (Int32 × Int32 × Int32 × (Nat → Int32) × (Nat → Int32) × (Nat → Int32)) :=
  fX9_runsOver_J64 N Mn Mt k30 Mh Mm Ms Me Mp x1 x3 y0 (0 : Int32)
def fX9_runsOver_B30 (N : Nat) (Mn : Int32) (Mt : (Nat → Int32)) (k30 : Int32 → Int32 → (Nat → Int32) → (Nat → Int32) → (Nat → Int32) → Int32 → Int32 → Int32 → Option (Int32 × Int32 × Int32 × (Nat → Int32) × (Nat → Int32) × (Nat → Int32))) (Mh : Int32) (Mm : Int32) (Ms : (Nat → Int32)) (Me : (Nat → Int32)) (Mp : (Nat → Int32)) (x1 : Int32) (x2 : Int32) (x3 : Int32) : Option (Int32 × Int32 × Int32 × (Nat → Int32) × (Nat → Int32) × (Nat → Int32)) :=
  if Mm ≤ x3 then
    fX9_runsOver_J72 N Mn Mt Mh Mm Ms Me Mp x2
  else
    gd (inb x3 128) (
      if x1 < (Ms (x3).toNatClampNeg) then
        fX9_runsOver_J63 N Mn Mt k30 Mh Mm Ms Me Mp x1 x3 x2
      else
        gd (inb x3 128) (
          if (Me (x3).toNatClampNeg) ≤ x1 then
            fX9_runsOver_J63 N Mn Mt k30 Mh Mm Ms Me Mp x1 x3 x2
          else
            fX9_runsOver_J64 N Mn Mt k30 Mh Mm Ms Me Mp x1 x3 x2 (1 : Int32)))
def fX9_runsOver_H30 (N : Nat) (Mn : Int32) (Mt : (Nat → Int32)) : Nat → Int32 → Int32 → (Nat → Int32) → (Nat → Int32) → (Nat → Int32) → Int32 → Int32 → Int32 → Option (Int32 × Int32 × Int32 × (Nat → Int32) × (Nat → Int32) × (Nat → Int32))
  | 0, _, _, _, _, _, _, _, _ => none
  | n + 1, Mh, Mm, Ms, Me, Mp, x1, x2, x3 => fX9_runsOver_B30 N Mn Mt (fX9_runsOver_H30 N Mn Mt n) Mh Mm Ms Me Mp x1 x2 x3
def fX9_runsOver_J14 (N : Nat) (Mn : Int32) (Mt : (Nat → Int32)) (Mh : Int32) (Mm : Int32) (Ms : (Nat → Int32)) (Me : (Nat → Int32)) (Mp : (Nat → Int32)) (x1 : Int32) (y1 : Int32) : Option (Int32 × Int32 × Int32 × (Nat → Int32) × (Nat → Int32) × (Nat → Int32)) :=
  bn (fX9_goesWell N Mh Mn Mm y1) (fun v14 =>
    if v14.1 = 0 then
      some ((0 : Int32), v14.2, Mm, Ms, Me, Mp)
    else
      bn (fX9_layRuns N v14.2 Mn Mm Mt Ms Me Mp) (fun v23 =>
        fX9_runsOver_H30 N Mn Mt N v14.2 v23.1 v23.2.1 v23.2.2.1 v23.2.2.2 x1 (0 : Int32) (0 : Int32)))
def fX9_runsOver (N : Nat) (Mh : Int32) (Mn : Int32) (Mm : Int32) (Mt : (Nat → Int32)) (Ms : (Nat → Int32)) (Me : (Nat → Int32)) (Mp : (Nat → Int32)) (p1 : Int32) : Option (Int32 × Int32 × Int32 × (Nat → Int32) × (Nat → Int32) × (Nat → Int32)) :=
  bn (fX9_isPlace N Mh Mn Mm p1) (fun v3 =>
    if v3 = 0 then
      fX9_runsOver_J14 N Mn Mt Mh Mm Ms Me Mp p1 (1 : Int32)
    else
      fX9_runsOver_J14 N Mn Mt Mh Mm Ms Me Mp p1 (0 : Int32))
def fX9_exponentsOfRuns_J52 (N : Nat) (Mn : Int32) (Mt : (Nat → Int32)) (Mh : Int32) (Mm : Int32) (Ms : (Nat → Int32)) (Me : (Nat → Int32)) (Mp : (Nat → Int32)) (x1 : UInt64) : Option (UInt64 × Int32 × Int32 × (Nat → Int32) × (Nat → Int32) × (Nat → Int32)) :=
  some (x1, Mh, Mm, Ms, Me, Mp)
def fX9_exponentsOfRuns_B13 (N : Nat) (Mn : Int32) (Mt : (Nat → Int32)) (k13 : Int32 → Int32 → (Nat → Int32) → (Nat → Int32) → (Nat → Int32) → UInt64 → Int32 → Option (UInt64 × Int32 × Int32 × (Nat → Int32) × (Nat → Int32) × (Nat → Int32))) (Mh : Int32) (Mm : Int32) (Ms : (Nat → Int32)) (Me : (Nat → Int32)) (Mp : (Nat → Int32)) (x1 : UInt64) (x3 : Int32) : Option (UInt64 × Int32 × Int32 × (Nat → Int32) × (Nat → Int32) × (Nat → Int32)) :=
  if Mm ≤ x3 then
    fX9_exponentsOfRuns_J52 N Mn Mt Mh Mm Ms Me Mp x1
  else
    gd (inb x3 128) (
      gd (inb x3 128) (
        gd (inb x3 128) (
          gd (nonan (FP.ddiv (FP.i2d ((Me (x3).toNatClampNeg) - (Ms (x3).toNatClampNeg))) (FP.i2d (Mp (x3).toNatClampNeg)))) (
            gd (nonan (FP.dadd x1 (FP.ddiv (FP.i2d ((Me (x3).toNatClampNeg) - (Ms (x3).toNatClampNeg))) (FP.i2d (Mp (x3).toNatClampNeg))))) (
              k13 Mh Mm Ms Me Mp (FP.dadd x1 (FP.ddiv (FP.i2d ((Me (x3).toNatClampNeg) - (Ms (x3).toNatClampNeg))) (FP.i2d (Mp (x3).toNatClampNeg)))) (x3 + 1))))))
def fX9_exponentsOfRuns_H13 (N : Nat) (Mn : Int32) (Mt : (Nat → Int32)) : Nat → Int32 → Int32 → (Nat → Int32) → (Nat → Int32) → (Nat → Int32) → UInt64 → Int32 → Option (UInt64 × Int32 × Int32 × (Nat → Int32) × (Nat → Int32) × (Nat → Int32))
  | 0, _, _, _, _, _, _, _ => none
  | n + 1, Mh, Mm, Ms, Me, Mp, x1, x3 => fX9_exponentsOfRuns_B13 N Mn Mt (fX9_exponentsOfRuns_H13 N Mn Mt n) Mh Mm Ms Me Mp x1 x3
def fX9_exponentsOfRuns (N : Nat) (Mh : Int32) (Mn : Int32) (Mm : Int32) (Mt : (Nat → Int32)) (Ms : (Nat → Int32)) (Me : (Nat → Int32)) (Mp : (Nat → Int32)) : Option (UInt64 × Int32 × Int32 × (Nat → Int32) × (Nat → Int32) × (Nat → Int32)) :=
  bn (fX9_layRuns N (0 : Int32) Mn Mm Mt Ms Me Mp) (fun v6 =>
    fX9_exponentsOfRuns_H13 N Mn Mt N (0 : Int32) v6.1 v6.2.1 v6.2.2.1 v6.2.2.2 FP.dconst0 (0 : Int32))
def fX9_squares_J95 (N : Nat) (Mn : Int32) (Mm : Int32) (Mt : (Nat → Int32)) (Mh : Int32) (x1 : Int32) : Option (Int32 × Int32) :=
  some (x1, Mh)
def fX9_squares_J89 (N : Nat) (Mn : Int32) (Mm : Int32) (Mt : (Nat → Int32)) (k9 : Int32 → Int32 → Int32 → Option (Int32 × Int32)) (Mh : Int32) (x1 : Int32) (x2 : Int32) : Option (Int32 × Int32) :=
  k9 Mh x1 (x2 + 1)
def fX9_squares_J81 (N : Nat) (Mn : Int32) (Mm : Int32) (Mt : (Nat → Int32)) (k9 : Int32 → Int32 → Int32 → Option (Int32 × Int32)) (k19 : Int32 → Int32 → Int32 → Int32 → Option (Int32 × Int32)) (Mh : Int32) (x2 : Int32) (x3 : Int32) (y0 : Int32) (y1 : Int32) : Option (Int32 × Int32) :=
  k19 Mh (y0 + y1) x2 (x3 + 1)
def fX9_squares_J80 (N : Nat) (Mn : Int32) (Mm : Int32) (Mt : (Nat → Int32)) (k9 : Int32 → Int32 → Int32 → Option (Int32 × Int32)) (k19 : Int32 → Int32 → Int32 → Int32 → Option (Int32 × Int32)) (Mh : Int32) (x2 : Int32) (x3 : Int32) (y0 : Int32) : Option (Int32 × Int32) :=
  fX9_squares_J81 N Mn Mm Mt k9 k19 Mh x2 x3 y0 (0 : Int32)
def fX9_squares_J56 (N : Nat) (Mn : Int32) (Mm : Int32) (Mt : (Nat → Int32)) (k9 : Int32 → Int32 → Int32 → Option (Int32 × Int32)) (k19 : Int32 → Int32 → Int32 → Int32 → Option (Int32 × Int32)) (Mh : Int32) (x1 : Int32) (x2 : Int32) (x3 : Int32) (y0 : Int32) : Option (Int32 × Int32) :=
  if y0 = 0 then
    fX9_squares_J80 N Mn Mm Mt k9 k19 Mh x2 x3 x1
  else
    bn (fX9_root N Mh Mn Mm Mt x2 (x2 + x3)) (fun v69 =>
      if v69 = x3 then
        fX9_squares_J81 N Mn Mm Mt k9 k19 Mh x2 x3 x1 (1 : Int32)
      else
        fX9_squares_J80 N Mn Mm Mt k9 k19 Mh x2 x3 x1)
def fX9_squares_B19 (N : Nat) (Mn : Int32) (Mm : Int32) (Mt : (Nat → Int32)) (k9 : Int32 → Int32 → Int32 → Option (Int32 × Int32)) (k19 : Int32 → Int32 → Int32 → Int32 → Option (Int32 × Int32)) (Mh : Int32) (x1 : Int32) (x2 : Int32) (x3 : Int32) : Option (Int32 × Int32) :=
  if Mn < (x2 + ((2 : Int32) * x3)) then
    fX9_squares_J89 N Mn Mm Mt k9 Mh x1 x2
  else
    bn (fX9_same N Mh Mn Mm Mt x2 (x2 + x3) (x2 + x3) (x2 + ((2 : Int32) * x3))) (fun v44 =>
      if v44 = x3 then
        fX9_squares_J56 N Mn Mm Mt k9 k19 Mh x1 x2 x3 (1 : Int32)
      else
        fX9_squares_J56 N Mn Mm Mt k9 k19 Mh x1 x2 x3 (0 : Int32))
def fX9_squares_H19 (N : Nat) (Mn : Int32) (Mm : Int32) (Mt : (Nat → Int32)) (k9 : Int32 → Int32 → Int32 → Option (Int32 × Int32)) : Nat → Int32 → Int32 → Int32 → Int32 → Option (Int32 × Int32)
  | 0, _, _, _, _ => none
  | n + 1, Mh, x1, x2, x3 => fX9_squares_B19 N Mn Mm Mt k9 (fX9_squares_H19 N Mn Mm Mt k9 n) Mh x1 x2 x3
def fX9_squares_B9 (N : Nat) (Mn : Int32) (Mm : Int32) (Mt : (Nat → Int32)) (k9 : Int32 → Int32 → Int32 → Option (Int32 × Int32)) (Mh : Int32) (x1 : Int32) (x2 : Int32) : Option (Int32 × Int32) :=
  if Mn ≤ x2 then
    fX9_squares_J95 N Mn Mm Mt Mh x1
  else
    fX9_squares_H19 N Mn Mm Mt k9 N Mh x1 x2 (1 : Int32)
def fX9_squares_H9 (N : Nat) (Mn : Int32) (Mm : Int32) (Mt : (Nat → Int32)) : Nat → Int32 → Int32 → Int32 → Option (Int32 × Int32)
  | 0, _, _, _ => none
  | n + 1, Mh, x1, x2 => fX9_squares_B9 N Mn Mm Mt (fX9_squares_H9 N Mn Mm Mt n) Mh x1 x2
def fX9_squares (N : Nat) (Mh : Int32) (Mn : Int32) (Mm : Int32) (Mt : (Nat → Int32)) : Option (Int32 × Int32) :=
  fX9_squares_H9 N Mn Mm Mt N (0 : Int32) (0 : Int32) (0 : Int32)
def fX9_rank_J44 (N : Nat) (Mh : Int32) (Mn : Int32) (Mm : Int32) (Mt : (Nat → Int32)) (x2 : Int32) : Option Int32 :=
  some x2
def fX9_rank_J36 (N : Nat) (Mh : Int32) (Mn : Int32) (Mm : Int32) (Mt : (Nat → Int32)) (k4 : Int32 → Int32 → Int32 → Option Int32) (x1 : Int32) (x3 : Int32) (y0 : Int32) (y1 : Int32) : Option Int32 :=
  k4 x1 (y0 + y1) (x3 + 1)
def fX9_rank_B4 (N : Nat) (Mh : Int32) (Mn : Int32) (Mm : Int32) (Mt : (Nat → Int32)) (k4 : Int32 → Int32 → Int32 → Option Int32) (x1 : Int32) (x2 : Int32) (x3 : Int32) : Option Int32 :=
  if Mn ≤ x3 then
    fX9_rank_J44 N Mh Mn Mm Mt x2
  else
    bn (fX9_order N Mh Mn Mm Mt x3 Mn x1 Mn (0 : Int32)) (fun v25 =>
      if 0 ≤ v25 then
        fX9_rank_J36 N Mh Mn Mm Mt k4 x1 x3 x2 (0 : Int32)
      else
        fX9_rank_J36 N Mh Mn Mm Mt k4 x1 x3 x2 (1 : Int32))
def fX9_rank_H4 (N : Nat) (Mh : Int32) (Mn : Int32) (Mm : Int32) (Mt : (Nat → Int32)) : Nat → Int32 → Int32 → Int32 → Option Int32
  | 0, _, _, _ => none
  | n + 1, x1, x2, x3 => fX9_rank_B4 N Mh Mn Mm Mt (fX9_rank_H4 N Mh Mn Mm Mt n) x1 x2 x3
def fX9_rank (N : Nat) (Mh : Int32) (Mn : Int32) (Mm : Int32) (Mt : (Nat → Int32)) (p1 : Int32) : Option Int32 :=
  fX9_rank_H4 N Mh Mn Mm Mt N p1 (0 : Int32) (0 : Int32)
def fX9_suffixAt_J39 (N : Nat) (Mn : Int32) (Mm : Int32) (Mt : (Nat → Int32)) (Mh : Int32) (x2 : Int32) : Option (Int32 × Int32) :=
  some (x2, Mh)
def fX9_suffixAt_B24 (N : Nat) (Mn : Int32) (Mm : Int32) (Mt : (Nat → Int32)) (k24 : Int32 → Int32 → Int32 → Option (Int32 × Int32)) (Mh : Int32) (x1 : Int32) (x2 : Int32) : Option (Int32 × Int32) :=
  bn (fX9_rank N Mh Mn Mm Mt x2) (fun v26 =>
    if v26 = x1 then
      fX9_suffixAt_J39 N Mn Mm Mt Mh x2
    else
      k24 Mh x1 (x2 + 1))
def fX9_suffixAt_H24 (N : Nat) (Mn : Int32) (Mm : Int32) (Mt : (Nat → Int32)) : Nat → Int32 → Int32 → Int32 → Option (Int32 × Int32)
  | 0, _, _, _ => none
  | n + 1, Mh, x1, x2 => fX9_suffixAt_B24 N Mn Mm Mt (fX9_suffixAt_H24 N Mn Mm Mt n) Mh x1 x2
def fX9_suffixAt_J14 (N : Nat) (Mn : Int32) (Mm : Int32) (Mt : (Nat → Int32)) (Mh : Int32) (x1 : Int32) (y1 : Int32) : Option (Int32 × Int32) :=
  bn (fX9_goesWell N Mh Mn Mm y1) (fun v14 =>
    if v14.1 = 0 then
      some ((0 : Int32), v14.2)
    else
      fX9_suffixAt_H24 N Mn Mm Mt N v14.2 x1 (0 : Int32))
def fX9_suffixAt (N : Nat) (Mh : Int32) (Mn : Int32) (Mm : Int32) (Mt : (Nat → Int32)) (p1 : Int32) : Option (Int32 × Int32) :=
  bn (fX9_isPlace N Mh Mn Mm p1) (fun v3 =>
    if v3 = 0 then
      fX9_suffixAt_J14 N Mn Mm Mt Mh p1 (1 : Int32)
    else
      fX9_suffixAt_J14 N Mn Mm Mt Mh p1 (0 : Int32))
def fX9_rankOf_J29 (N : Nat) (Mn : Int32) (Mm : Int32) (Mt : (Nat → Int32)) (Mh : Int32) (y0 : Int32) : Option (Int32 × Int32) :=
  some (y0, Mh)
def fX9_rankOf_J14 (N : Nat) (Mn : Int32) (Mm : Int32) (Mt : (Nat → Int32)) (Mh : Int32) (x1 : Int32) (y1 : Int32) : Option (Int32 × Int32) :=
  bn (fX9_goesWell N Mh Mn Mm y1) (fun v14 =>
    if v14.1 = 0 then
      fX9_rankOf_J29 N Mn Mm Mt v14.2 (0 : Int32)
    else
      bn (fX9_rank N v14.2 Mn Mm Mt x1) (fun v22 =>
        fX9_rankOf_J29 N Mn Mm Mt v14.2 v22))
def fX9_rankOf (N : Nat) (Mh : Int32) (Mn : Int32) (Mm : Int32) (Mt : (Nat → Int32)) (p1 : Int32) : Option (Int32 × Int32) :=
  bn (fX9_isPlace N Mh Mn Mm p1) (fun v3 =>
    if v3 = 0 then
      fX9_rankOf_J14 N Mn Mm Mt Mh p1 (1 : Int32)
    else
      fX9_rankOf_J14 N Mn Mm Mt Mh p1 (0 : Int32))
def fX9_layLyndon_J84 (N : Nat) (Mh : Int32) (Mn : Int32) (Mm : Int32) (My : (Nat → Int64)) : Option (Nat → Int64) :=
  some My
def fX9_layLyndon_J63 (N : Nat) (Mh : Int32) (Mn : Int32) (Mm : Int32) (k5 : (Nat → Int64) → Int32 → Int32 → Int64 → Int32 → Option (Nat → Int64)) (My : (Nat → Int64)) (x1 : Int32) (x2 : Int32) (x3 : Int64) (x5 : Int32) (x6 : Int64) : Option (Nat → Int64) :=
  gd (nzL ((x5).toInt64)) (
    gd (inb x5 13) (
      k5 (vp_updL My (x5).toNatClampNeg ((x3 - x6) / (x5).toInt64)) x1 x2 x3 (x5 + 1)))
def fX9_layLyndon_J54 (N : Nat) (Mh : Int32) (Mn : Int32) (Mm : Int32) (k5 : (Nat → Int64) → Int32 → Int32 → Int64 → Int32 → Option (Nat → Int64)) (k22 : (Nat → Int64) → Int32 → Int32 → Int64 → Int32 → Int64 → Int32 → Option (Nat → Int64)) (My : (Nat → Int64)) (x1 : Int32) (x2 : Int32) (x3 : Int64) (x5 : Int32) (x8 : Int32) (y0 : Int64) (y1 : Int64) : Option (Nat → Int64) :=
  k22 My x1 x2 x3 x5 (y0 + y1) (x8 + 1)
def fX9_layLyndon_B22 (N : Nat) (Mh : Int32) (Mn : Int32) (Mm : Int32) (k5 : (Nat → Int64) → Int32 → Int32 → Int64 → Int32 → Option (Nat → Int64)) (k22 : (Nat → Int64) → Int32 → Int32 → Int64 → Int32 → Int64 → Int32 → Option (Nat → Int64)) (My : (Nat → Int64)) (x1 : Int32) (x2 : Int32) (x3 : Int64) (x5 : Int32) (x6 : Int64) (x8 : Int32) : Option (Nat → Int64) :=
  if x5 ≤ x8 then
    fX9_layLyndon_J63 N Mh Mn Mm k5 My x1 x2 x3 x5 x6
  else
    gd (nz x8) (
      if (x5 - x5 / x8 * x8) = 0 then
        gd (inb x8 13) (
          fX9_layLyndon_J54 N Mh Mn Mm k5 k22 My x1 x2 x3 x5 x8 x6 ((x8).toInt64 * (My (x8).toNatClampNeg)))
      else
        fX9_layLyndon_J54 N Mh Mn Mm k5 k22 My x1 x2 x3 x5 x8 x6 (0 : Int64))
def fX9_layLyndon_H22 (N : Nat) (Mh : Int32) (Mn : Int32) (Mm : Int32) (k5 : (Nat → Int64) → Int32 → Int32 → Int64 → Int32 → Option (Nat → Int64)) : Nat → (Nat → Int64) → Int32 → Int32 → Int64 → Int32 → Int64 → Int32 → Option (Nat → Int64)
  | 0, _, _, _, _, _, _, _ => none
  | n + 1, My, x1, x2, x3, x5, x6, x8 => fX9_layLyndon_B22 N Mh Mn Mm k5 (fX9_layLyndon_H22 N Mh Mn Mm k5 n) My x1 x2 x3 x5 x6 x8
def fX9_layLyndon_B5 (N : Nat) (Mh : Int32) (Mn : Int32) (Mm : Int32) (k5 : (Nat → Int64) → Int32 → Int32 → Int64 → Int32 → Option (Nat → Int64)) (My : (Nat → Int64)) (x1 : Int32) (x2 : Int32) (x3 : Int64) (x5 : Int32) : Option (Nat → Int64) :=
  if x2 < x5 then
    fX9_layLyndon_J84 N Mh Mn Mm My
  else
    fX9_layLyndon_H22 N Mh Mn Mm k5 N My x1 x2 (x3 * (x1).toInt64) x5 (0 : Int64) (1 : Int32)
def fX9_layLyndon_H5 (N : Nat) (Mh : Int32) (Mn : Int32) (Mm : Int32) : Nat → (Nat → Int64) → Int32 → Int32 → Int64 → Int32 → Option (Nat → Int64)
  | 0, _, _, _, _, _ => none
  | n + 1, My, x1, x2, x3, x5 => fX9_layLyndon_B5 N Mh Mn Mm (fX9_layLyndon_H5 N Mh Mn Mm n) My x1 x2 x3 x5
def fX9_layLyndon (N : Nat) (Mh : Int32) (Mn : Int32) (Mm : Int32) (My : (Nat → Int64)) (p1 : Int32) (p2 : Int32) : Option (Nat → Int64) :=
  fX9_layLyndon_H5 N Mh Mn Mm N My p1 p2 (1 : Int64) (1 : Int32)
def fX9_necklaces_J78 (N : Nat) (Mn : Int32) (Mm : Int32) (Mh : Int32) (My : (Nat → Int64)) (x3 : Int64) : Option (Int64 × Int32 × (Nat → Int64)) :=
  some (x3, Mh, My)
def fX9_necklaces_J70 (N : Nat) (Mn : Int32) (Mm : Int32) (k45 : Int32 → (Nat → Int64) → Int32 → Int64 → Int32 → Option (Int64 × Int32 × (Nat → Int64))) (Mh : Int32) (My : (Nat → Int64)) (x2 : Int32) (x5 : Int32) (y0 : Int64) (y1 : Int64) : Option (Int64 × Int32 × (Nat → Int64)) :=
  k45 Mh My x2 (y0 + y1) (x5 + 1)
def fX9_necklaces_B45 (N : Nat) (Mn : Int32) (Mm : Int32) (k45 : Int32 → (Nat → Int64) → Int32 → Int64 → Int32 → Option (Int64 × Int32 × (Nat → Int64))) (Mh : Int32) (My : (Nat → Int64)) (x2 : Int32) (x3 : Int64) (x5 : Int32) : Option (Int64 × Int32 × (Nat → Int64)) :=
  if x2 < x5 then
    fX9_necklaces_J78 N Mn Mm Mh My x3
  else
    gd (nz x5) (
      if (x2 - x2 / x5 * x5) = 0 then
        gd (inb x5 13) (
          fX9_necklaces_J70 N Mn Mm k45 Mh My x2 x5 x3 (My (x5).toNatClampNeg))
      else
        fX9_necklaces_J70 N Mn Mm k45 Mh My x2 x5 x3 (0 : Int64))
def fX9_necklaces_H45 (N : Nat) (Mn : Int32) (Mm : Int32) : Nat → Int32 → (Nat → Int64) → Int32 → Int64 → Int32 → Option (Int64 × Int32 × (Nat → Int64))
  | 0, _, _, _, _, _ => none
  | n + 1, Mh, My, x2, x3, x5 => fX9_necklaces_B45 N Mn Mm (fX9_necklaces_H45 N Mn Mm n) Mh My x2 x3 x5
def fX9_necklaces_J26 (N : Nat) (Mn : Int32) (Mm : Int32) (Mh : Int32) (My : (Nat → Int64)) (x1 : Int32) (x2 : Int32) (y1 : Int32) : Option (Int64 × Int32 × (Nat → Int64)) :=
  bn (fX9_goesWell N Mh Mn Mm y1) (fun v26 =>
    if v26.1 = 0 then
      some ((0 : Int64), v26.2, My)
    else
      bn (fX9_layLyndon N v26.2 Mn Mm My x1 x2) (fun v37 =>
        fX9_necklaces_H45 N Mn Mm N v26.2 v37 x2 (0 : Int64) (1 : Int32)))
def fX9_necklaces_J25 (N : Nat) (Mn : Int32) (Mm : Int32) (Mh : Int32) (My : (Nat → Int64)) (x1 : Int32) (x2 : Int32) : Option (Int64 × Int32 × (Nat → Int64)) :=
  fX9_necklaces_J26 N Mn Mm Mh My x1 x2 (1 : Int32)
def fX9_necklaces (N : Nat) (Mh : Int32) (Mn : Int32) (Mm : Int32) (My : (Nat → Int64)) (p1 : Int32) (p2 : Int32) : Option (Int64 × Int32 × (Nat → Int64)) :=
  bn (fX9_in N p1 (1 : Int32) (10 : Int32)) (fun v5 =>
    if v5 = 0 then
      fX9_necklaces_J25 N Mn Mm Mh My p1 p2
    else
      bn (fX9_in N p2 (1 : Int32) (12 : Int32)) (fun v15 =>
        if v15 = 0 then
          fX9_necklaces_J25 N Mn Mm Mh My p1 p2
        else
          fX9_necklaces_J26 N Mn Mm Mh My p1 p2 (0 : Int32)))
def fX9_lyndonWords_J26 (N : Nat) (Mn : Int32) (Mm : Int32) (Mh : Int32) (My : (Nat → Int64)) (x1 : Int32) (x2 : Int32) (y1 : Int32) : Option (Int64 × Int32 × (Nat → Int64)) :=
  bn (fX9_goesWell N Mh Mn Mm y1) (fun v26 =>
    if v26.1 = 0 then
      some ((0 : Int64), v26.2, My)
    else
      bn (fX9_layLyndon N v26.2 Mn Mm My x1 x2) (fun v37 =>
        gd (inb x2 13) (
          some ((v37 (x2).toNatClampNeg), v26.2, v37))))
def fX9_lyndonWords_J25 (N : Nat) (Mn : Int32) (Mm : Int32) (Mh : Int32) (My : (Nat → Int64)) (x1 : Int32) (x2 : Int32) : Option (Int64 × Int32 × (Nat → Int64)) :=
  fX9_lyndonWords_J26 N Mn Mm Mh My x1 x2 (1 : Int32)
def fX9_lyndonWords (N : Nat) (Mh : Int32) (Mn : Int32) (Mm : Int32) (My : (Nat → Int64)) (p1 : Int32) (p2 : Int32) : Option (Int64 × Int32 × (Nat → Int64)) :=
  bn (fX9_in N p1 (1 : Int32) (10 : Int32)) (fun v5 =>
    if v5 = 0 then
      fX9_lyndonWords_J25 N Mn Mm Mh My p1 p2
    else
      bn (fX9_in N p2 (1 : Int32) (12 : Int32)) (fun v15 =>
        if v15 = 0 then
          fX9_lyndonWords_J25 N Mn Mm Mh My p1 p2
        else
          fX9_lyndonWords_J26 N Mn Mm Mh My p1 p2 (0 : Int32)))
def fX9_isOf_J53 (N : Nat) (Mh : Int32) (Mn : Int32) (Mm : Int32) (Mt : (Nat → Int32)) (x4 : Int32) : Option Int32 :=
  gd (isB x4) (some x4)
def fX9_isOf_J45 (N : Nat) (Mh : Int32) (Mn : Int32) (Mm : Int32) (Mt : (Nat → Int32)) (k18 : Int32 → Int32 → Int32 → Int32 → Option Int32) (x2 : Int32) (x3 : Int32) (x5 : Int32) (y0 : Int32) : Option Int32 :=
  k18 x2 x3 y0 (x5 + 1)
def fX9_isOf_J44 (N : Nat) (Mh : Int32) (Mn : Int32) (Mm : Int32) (Mt : (Nat → Int32)) (k18 : Int32 → Int32 → Int32 → Int32 → Option Int32) (x2 : Int32) (x3 : Int32) (x5 : Int32) : Option Int32 :=
  fX9_isOf_J45 N Mh Mn Mm Mt k18 x2 x3 x5 (0 : Int32)
def fX9_isOf_B18 (N : Nat) (Mh : Int32) (Mn : Int32) (Mm : Int32) (Mt : (Nat → Int32)) (k18 : Int32 → Int32 → Int32 → Int32 → Option Int32) (x2 : Int32) (x3 : Int32) (x4 : Int32) (x5 : Int32) : Option Int32 :=
  if x2 ≤ x5 then
    fX9_isOf_J53 N Mh Mn Mm Mt x4
  else
    if x4 = 0 then
      fX9_isOf_J44 N Mh Mn Mm Mt k18 x2 x3 x5
    else
      gd (inb x5 64) (
        if x3 ≤ (Mt (x5).toNatClampNeg) then
          fX9_isOf_J44 N Mh Mn Mm Mt k18 x2 x3 x5
        else
          fX9_isOf_J45 N Mh Mn Mm Mt k18 x2 x3 x5 (1 : Int32))
def fX9_isOf_H18 (N : Nat) (Mh : Int32) (Mn : Int32) (Mm : Int32) (Mt : (Nat → Int32)) : Nat → Int32 → Int32 → Int32 → Int32 → Option Int32
  | 0, _, _, _, _ => none
  | n + 1, x2, x3, x4, x5 => fX9_isOf_B18 N Mh Mn Mm Mt (fX9_isOf_H18 N Mh Mn Mm Mt n) x2 x3 x4 x5
def fX9_isOf_J13 (N : Nat) (Mh : Int32) (Mn : Int32) (Mm : Int32) (Mt : (Nat → Int32)) (x1 : Int32) (x2 : Int32) (x3 : Int32) (y0 : Int32) : Option Int32 :=
  fX9_isOf_H18 N Mh Mn Mm Mt N x2 x3 y0 x1
def fX9_isOf (N : Nat) (Mh : Int32) (Mn : Int32) (Mm : Int32) (Mt : (Nat → Int32)) (p1 : Int32) (p2 : Int32) (p3 : Int32) : Option Int32 :=
  if (8 : Int32) < (p2 - p1) then
    fX9_isOf_J13 N Mh Mn Mm Mt p1 p2 p3 (0 : Int32)
  else
    fX9_isOf_J13 N Mh Mn Mm Mt p1 p2 p3 (1 : Int32)
def fX9_necklaceNumber_J151 (N : Nat) (Mn : Int32) (Mm : Int32) (Mt : (Nat → Int32)) (Mh : Int32) (Mw : (Nat → Int32)) (x7 : Int32) : Option (Int32 × Int32 × (Nat → Int32)) :=
  some (x7, Mh, Mw)
def fX9_necklaceNumber_J142 (N : Nat) (Mn : Int32) (Mm : Int32) (Mt : (Nat → Int32)) (k110 : Int32 → (Nat → Int32) → Int32 → Int32 → Int32 → Int32 → Int32 → Option (Int32 × Int32 × (Nat → Int32))) (Mh : Int32) (Mw : (Nat → Int32)) (x3 : Int32) (x4 : Int32) (x6 : Int32) (x8 : Int32) (y0 : Int32) (y1 : Int32) : Option (Int32 × Int32 × (Nat → Int32)) :=
  k110 Mh Mw x3 x4 x6 (y0 + y1) (x8 + 1)
def fX9_necklaceNumber_B110 (N : Nat) (Mn : Int32) (Mm : Int32) (Mt : (Nat → Int32)) (k110 : Int32 → (Nat → Int32) → Int32 → Int32 → Int32 → Int32 → Int32 → Option (Int32 × Int32 × (Nat → Int32))) (Mh : Int32) (Mw : (Nat → Int32)) (x3 : Int32) (x4 : Int32) (x6 : Int32) (x7 : Int32) (x8 : Int32) : Option (Int32 × Int32 × (Nat → Int32)) :=
  if x6 ≤ x8 then
    fX9_necklaceNumber_J151 N Mn Mm Mt Mh Mw x7
  else
    bn (fX9_layWord N Mh Mn Mm Mw x8 x3 x4) (fun v123 =>
      bn (fX9_isNecklaceWord N Mh Mn Mm v123 x4) (fun v131 =>
        if v131 = 0 then
          fX9_necklaceNumber_J142 N Mn Mm Mt k110 Mh v123 x3 x4 x6 x8 x7 (0 : Int32)
        else
          fX9_necklaceNumber_J142 N Mn Mm Mt k110 Mh v123 x3 x4 x6 x8 x7 (1 : Int32)))
def fX9_necklaceNumber_H110 (N : Nat) (Mn : Int32) (Mm : Int32) (Mt : (Nat → Int32)) : Nat → Int32 → (Nat → Int32) → Int32 → Int32 → Int32 → Int32 → Int32 → Option (Int32 × Int32 × (Nat → Int32))
  | 0, _, _, _, _, _, _, _ => none
  | n + 1, Mh, Mw, x3, x4, x6, x7, x8 => fX9_necklaceNumber_B110 N Mn Mm Mt (fX9_necklaceNumber_H110 N Mn Mm Mt n) Mh Mw x3 x4 x6 x7 x8
def fX9_necklaceNumber_J104 (N : Nat) (Mn : Int32) (Mm : Int32) (Mt : (Nat → Int32)) (Mh : Int32) (Mw : (Nat → Int32)) (x3 : Int32) (x4 : Int32) (x6 : Int32) : Option (Int32 × Int32 × (Nat → Int32)) :=
  fX9_necklaceNumber_H110 N Mn Mm Mt N Mh Mw x3 x4 x6 (0 : Int32) (0 : Int32)
def fX9_necklaceNumber_B69 (N : Nat) (Mn : Int32) (Mm : Int32) (Mt : (Nat → Int32)) (k69 : Int32 → (Nat → Int32) → Int32 → Int32 → Int32 → Int32 → Int32 → Int32 → Option (Int32 × Int32 × (Nat → Int32))) (Mh : Int32) (Mw : (Nat → Int32)) (x1 : Int32) (x3 : Int32) (x4 : Int32) (x5 : Int32) (x6 : Int32) (x7 : Int32) : Option (Int32 × Int32 × (Nat → Int32)) :=
  if x4 ≤ x7 then
    fX9_necklaceNumber_J104 N Mn Mm Mt Mh Mw x3 x4 x6
  else
    gd (nz x4) (
      gd (inb (x1 + ((x7 + x5) - (x7 + x5) / x4 * x4)) 64) (
        k69 Mh Mw x1 x3 x4 x5 ((x3 * x6) + (Mt ((x1 + ((x7 + x5) - (x7 + x5) / x4 * x4))).toNatClampNeg)) (x7 + 1)))
def fX9_necklaceNumber_H69 (N : Nat) (Mn : Int32) (Mm : Int32) (Mt : (Nat → Int32)) : Nat → Int32 → (Nat → Int32) → Int32 → Int32 → Int32 → Int32 → Int32 → Int32 → Option (Int32 × Int32 × (Nat → Int32))
  | 0, _, _, _, _, _, _, _, _ => none
  | n + 1, Mh, Mw, x1, x3, x4, x5, x6, x7 => fX9_necklaceNumber_B69 N Mn Mm Mt (fX9_necklaceNumber_H69 N Mn Mm Mt n) Mh Mw x1 x3 x4 x5 x6 x7
def fX9_necklaceNumber_J42 (N : Nat) (Mn : Int32) (Mm : Int32) (Mt : (Nat → Int32)) (Mh : Int32) (Mw : (Nat → Int32)) (x1 : Int32) (x2 : Int32) (x3 : Int32) (y1 : Int32) : Option (Int32 × Int32 × (Nat → Int32)) :=
  bn (fX9_goesWell N Mh Mn Mm y1) (fun v42 =>
    if v42.1 = 0 then
      some ((0 : Int32), v42.2, Mw)
    else
      bn (fX9_least N v42.2 Mn Mm Mt x1 x2) (fun v58 =>
        fX9_necklaceNumber_H69 N Mn Mm Mt N v42.2 Mw x1 x3 (x2 - x1) v58 (0 : Int32) (0 : Int32)))
def fX9_necklaceNumber (N : Nat) (Mh : Int32) (Mn : Int32) (Mm : Int32) (Mt : (Nat → Int32)) (Mw : (Nat → Int32)) (p1 : Int32) (p2 : Int32) (p3 : Int32) : Option (Int32 × Int32 × (Nat → Int32)) :=
  bn (fX9_isPart N Mh Mn Mm p1 p2) (fun v4 =>
    if v4 = 0 then
      fX9_necklaceNumber_J42 N Mn Mm Mt Mh Mw p1 p2 p3 (1 : Int32)
    else
      bn (fX9_in N p3 (1 : Int32) (4 : Int32)) (fun v17 =>
        if v17 = 0 then
          fX9_necklaceNumber_J42 N Mn Mm Mt Mh Mw p1 p2 p3 (2 : Int32)
        else
          bn (fX9_isOf N Mh Mn Mm Mt p1 p2 p3) (fun v31 =>
            if v31 = 0 then
              fX9_necklaceNumber_J42 N Mn Mm Mt Mh Mw p1 p2 p3 (3 : Int32)
            else
              fX9_necklaceNumber_J42 N Mn Mm Mt Mh Mw p1 p2 p3 (0 : Int32))))
def fL_append (N : Nat) (Tn : Int32) (Ta : (Nat → Int32)) (Oa : (Nat → Int64)) (p1 : Int32) : Option (Int32 × Int32 × (Nat → Int32) × (Nat → Int64)) :=
  bx (fX8_append N Tn Ta p1) (fun z4 => if z4.1 = 1 then some ((1 : Int32), z4.2.1, z4.2.2, Oa) else if z4.1 = 2 then some ((2 : Int32), z4.2.1, z4.2.2, Oa) else none) (fun v4 =>
    gd (inb (0 : Int32) 1) (
      some ((0 : Int32), v4.2.1, v4.2.2, (vp_updL Oa ((0 : Int32)).toNatClampNeg ((v4.1).toInt64)))))
def fL_insert (N : Nat) (Tn : Int32) (Ta : (Nat → Int32)) (Oa : (Nat → Int64)) (p1 : Int32) (p2 : Int32) : Option (Int32 × Int32 × (Nat → Int32) × (Nat → Int64)) :=
  bx (fX8_insert N Tn Ta p1 p2) (fun z5 => if z5.1 = 0 then some ((1 : Int32), z5.2.1, z5.2.2, Oa) else if z5.1 = 1 then some ((2 : Int32), z5.2.1, z5.2.2, Oa) else if z5.1 = 2 then some ((3 : Int32), z5.2.1, z5.2.2, Oa) else none) (fun v5 =>
    gd (inb (0 : Int32) 1) (
      some ((0 : Int32), v5.2.1, v5.2.2, (vp_updL Oa ((0 : Int32)).toNatClampNeg ((v5.1).toInt64)))))
def fL_set (N : Nat) (Tn : Int32) (Ta : (Nat → Int32)) (Oa : (Nat → Int64)) (p1 : Int32) (p2 : Int32) : Option (Int32 × (Nat → Int32) × (Nat → Int64)) :=
  bx (fX8_set N Tn Ta p1 p2) (fun z5 => if z5.1 = 0 then some ((1 : Int32), z5.2, Oa) else if z5.1 = 1 then some ((2 : Int32), z5.2, Oa) else none) (fun v5 =>
    gd (inb (0 : Int32) 1) (
      some ((0 : Int32), v5.2, (vp_updL Oa ((0 : Int32)).toNatClampNeg ((v5.1).toInt64)))))
def fL_remove (N : Nat) (Tn : Int32) (Ta : (Nat → Int32)) (Oa : (Nat → Int64)) (p1 : Int32) : Option (Int32 × Int32 × (Nat → Int32) × (Nat → Int64)) :=
  bx (fX8_remove N Tn Ta p1) (fun z4 => if z4.1 = 0 then some ((1 : Int32), z4.2.1, z4.2.2, Oa) else none) (fun v4 =>
    gd (inb (0 : Int32) 1) (
      some ((0 : Int32), v4.2.1, v4.2.2, (vp_updL Oa ((0 : Int32)).toNatClampNeg ((v4.1).toInt64)))))
def fL_rotate (N : Nat) (Tn : Int32) (Ta : (Nat → Int32)) (Oa : (Nat → Int64)) (p1 : Int32) : Option (Int32 × (Nat → Int32) × (Nat → Int64)) :=
  bx (fX8_rotate N Tn Ta p1) (fun z4 => if z4.1 = 1 then some ((1 : Int32), z4.2, Oa) else if z4.1 = 2 then some ((2 : Int32), z4.2, Oa) else none) (fun v4 =>
    gd (inb (0 : Int32) 1) (
      some ((0 : Int32), v4.2, (vp_updL Oa ((0 : Int32)).toNatClampNeg ((v4.1).toInt64)))))
def fL_appendPart (N : Nat) (Tn : Int32) (Ta : (Nat → Int32)) (Oa : (Nat → Int64)) (p1 : Int32) (p2 : Int32) : Option (Int32 × Int32 × (Nat → Int32) × (Nat → Int64)) :=
  bx (fX8_appendPart N Tn Ta p1 p2) (fun z5 => if z5.1 = 0 then some ((1 : Int32), z5.2.1, z5.2.2, Oa) else if z5.1 = 2 then some ((2 : Int32), z5.2.1, z5.2.2, Oa) else none) (fun v5 =>
    gd (inb (0 : Int32) 1) (
      some ((0 : Int32), v5.2.1, v5.2.2, (vp_updL Oa ((0 : Int32)).toNatClampNeg ((v5.1).toInt64)))))
def fL_loadDeBruijn (N : Nat) (Tn : Int32) (Ta : (Nat → Int32)) (Wg : Int32) (Wz : Int32) (Ww : Int32) (Wr : Int32) (Oa : (Nat → Int64)) (p1 : Int32) (p2 : Int32) : Option (Int32 × Int32 × (Nat → Int32) × Int32 × Int32 × Int32 × Int32 × (Nat → Int64)) :=
  bx (fX8_loadDeBruijn N Tn Ta Wg Wz Ww Wr p1 p2) (fun z5 => if z5.1 = 1 then some ((1 : Int32), z5.2.1, z5.2.2.1, z5.2.2.2.1, z5.2.2.2.2.1, z5.2.2.2.2.2.1, z5.2.2.2.2.2.2, Oa) else none) (fun v5 =>
    gd (inb (0 : Int32) 1) (
      some ((0 : Int32), v5.2.1, v5.2.2.1, v5.2.2.2.1, v5.2.2.2.2.1, v5.2.2.2.2.2.1, v5.2.2.2.2.2.2, (vp_updL Oa ((0 : Int32)).toNatClampNeg ((v5.1).toInt64)))))
def fL_loadNecklace (N : Nat) (Tn : Int32) (Ta : (Nat → Int32)) (Wg : Int32) (Wz : Int32) (Ww : Int32) (Wr : Int32) (Oa : (Nat → Int64)) (p1 : Int32) (p2 : Int32) (p3 : Int32) : Option (Int32 × Int32 × (Nat → Int32) × Int32 × Int32 × Int32 × Int32 × (Nat → Int64)) :=
  bx (fX8_loadNecklace N Tn Ta Wg Wz Ww Wr p1 p2 p3) (fun z7 => if z7.1 = 1 then some ((1 : Int32), z7.2.1, z7.2.2.1, z7.2.2.2.1, z7.2.2.2.2.1, z7.2.2.2.2.2.1, z7.2.2.2.2.2.2, Oa) else none) (fun v7 =>
    gd (inb (0 : Int32) 1) (
      some ((0 : Int32), v7.2.1, v7.2.2.1, v7.2.2.2.1, v7.2.2.2.2.1, v7.2.2.2.2.2.1, v7.2.2.2.2.2.2, (vp_updL Oa ((0 : Int32)).toNatClampNeg ((v7.1).toInt64)))))
def fL_letterAt (N : Nat) (Tn : Int32) (Ta : (Nat → Int32)) (Oa : (Nat → Int64)) (p1 : Int32) : Option (Int32 × (Nat → Int64)) :=
  bx (fX8_letterAt N Tn Ta p1) (fun z4 => if z4 = 0 then some ((1 : Int32), Oa) else none) (fun v4 =>
    gd (inb (0 : Int32) 1) (
      some ((0 : Int32), (vp_updL Oa ((0 : Int32)).toNatClampNeg ((v4).toInt64)))))
def fL_compare (N : Nat) (Tn : Int32) (Ta : (Nat → Int32)) (Oa : (Nat → Int64)) (p1 : Int32) (p2 : Int32) (p3 : Int32) (p4 : Int32) : Option (Int32 × (Nat → Int64)) :=
  bx (fX8_compare N Tn Ta p1 p2 p3 p4) (fun z9 => if z9 = 0 then some ((1 : Int32), Oa) else none) (fun v9 =>
    gd (inb (0 : Int32) 1) (
      some ((0 : Int32), (vp_updL Oa ((0 : Int32)).toNatClampNeg ((v9).toInt64)))))
def fL_commonPrefix (N : Nat) (Tn : Int32) (Ta : (Nat → Int32)) (Oa : (Nat → Int64)) (p1 : Int32) (p2 : Int32) : Option (Int32 × (Nat → Int64)) :=
  bx (fX8_commonPrefix N Tn Ta p1 p2) (fun z5 => if z5 = 0 then some ((1 : Int32), Oa) else none) (fun v5 =>
    gd (inb (0 : Int32) 1) (
      some ((0 : Int32), (vp_updL Oa ((0 : Int32)).toNatClampNeg ((v5).toInt64)))))
def fL_isLyndon_J16 (N : Nat) (Tn : Int32) (Ta : (Nat → Int32)) (Oa : (Nat → Int64)) (y1 : Int32) (y2 : Int64) : Option (Int32 × (Nat → Int64)) :=
  gd (inb y1 1) (
    some ((0 : Int32), (vp_updL Oa (y1).toNatClampNeg y2)))
def fL_isLyndon (N : Nat) (Tn : Int32) (Ta : (Nat → Int32)) (Oa : (Nat → Int64)) (p1 : Int32) (p2 : Int32) : Option (Int32 × (Nat → Int64)) :=
  bx (fX8_isLyndon N Tn Ta p1 p2) (fun z5 => if z5 = 0 then some ((1 : Int32), Oa) else none) (fun v5 =>
    if v5 = 0 then
      fL_isLyndon_J16 N Tn Ta Oa (0 : Int32) (0 : Int64)
    else
      fL_isLyndon_J16 N Tn Ta Oa (0 : Int32) (1 : Int64))
def fL_factorStart (N : Nat) (Tn : Int32) (Ta : (Nat → Int32)) (Fn : Int32) (Fa : (Nat → Int32)) (Oa : (Nat → Int64)) (p1 : Int32) : Option (Int32 × Int32 × (Nat → Int32) × (Nat → Int64)) :=
  bx (fX8_factorStart N Tn Ta Fn Fa p1) (fun z4 => if z4.1 = 0 then some ((1 : Int32), z4.2.1, z4.2.2, Oa) else none) (fun v4 =>
    gd (inb (0 : Int32) 1) (
      some ((0 : Int32), v4.2.1, v4.2.2, (vp_updL Oa ((0 : Int32)).toNatClampNeg ((v4.1).toInt64)))))
def fL_factorLength (N : Nat) (Tn : Int32) (Ta : (Nat → Int32)) (Fn : Int32) (Fa : (Nat → Int32)) (Oa : (Nat → Int64)) (p1 : Int32) : Option (Int32 × Int32 × (Nat → Int32) × (Nat → Int64)) :=
  bx (fX8_factorLength N Tn Ta Fn Fa p1) (fun z4 => if z4.1 = 0 then some ((1 : Int32), z4.2.1, z4.2.2, Oa) else none) (fun v4 =>
    gd (inb (0 : Int32) 1) (
      some ((0 : Int32), v4.2.1, v4.2.2, (vp_updL Oa ((0 : Int32)).toNatClampNeg ((v4.1).toInt64)))))
def fL_factorOver (N : Nat) (Tn : Int32) (Ta : (Nat → Int32)) (Fn : Int32) (Fa : (Nat → Int32)) (Oa : (Nat → Int64)) (p1 : Int32) : Option (Int32 × Int32 × (Nat → Int32) × (Nat → Int64)) :=
  bx (fX8_factorOver N Tn Ta Fn Fa p1) (fun z4 => if z4.1 = 0 then some ((1 : Int32), z4.2.1, z4.2.2, Oa) else none) (fun v4 =>
    gd (inb (0 : Int32) 1) (
      some ((0 : Int32), v4.2.1, v4.2.2, (vp_updL Oa ((0 : Int32)).toNatClampNeg ((v4.1).toInt64)))))
def fL_longestLyndon (N : Nat) (Tn : Int32) (Ta : (Nat → Int32)) (Oa : (Nat → Int64)) (p1 : Int32) (p2 : Int32) : Option (Int32 × (Nat → Int64)) :=
  bx (fX8_longestLyndon N Tn Ta p1 p2) (fun z5 => if z5 = 0 then some ((1 : Int32), Oa) else none) (fun v5 =>
    gd (inb (0 : Int32) 1) (
      some ((0 : Int32), (vp_updL Oa ((0 : Int32)).toNatClampNeg ((v5).toInt64)))))
def fL_standardFactor (N : Nat) (Tn : Int32) (Ta : (Nat → Int32)) (Oa : (Nat → Int64)) (p1 : Int32) (p2 : Int32) : Option (Int32 × (Nat → Int64)) :=
  bx (fX8_standardFactor N Tn Ta p1 p2) (fun z5 => if z5 = 0 then some ((1 : Int32), Oa) else if z5 = 2 then some ((2 : Int32), Oa) else none) (fun v5 =>
    gd (inb (0 : Int32) 1) (
      some ((0 : Int32), (vp_updL Oa ((0 : Int32)).toNatClampNeg ((v5).toInt64)))))
def fL_leastRotation (N : Nat) (Tn : Int32) (Ta : (Nat → Int32)) (Oa : (Nat → Int64)) (p1 : Int32) (p2 : Int32) : Option (Int32 × (Nat → Int64)) :=
  bx (fX8_leastRotation N Tn Ta p1 p2) (fun z5 => if z5 = 0 then some ((1 : Int32), Oa) else none) (fun v5 =>
    gd (inb (0 : Int32) 1) (
      some ((0 : Int32), (vp_updL Oa ((0 : Int32)).toNatClampNeg ((v5).toInt64)))))
def fL_greatestRotation (N : Nat) (Tn : Int32) (Ta : (Nat → Int32)) (Oa : (Nat → Int64)) (p1 : Int32) (p2 : Int32) : Option (Int32 × (Nat → Int64)) :=
  bx (fX8_greatestRotation N Tn Ta p1 p2) (fun z5 => if z5 = 0 then some ((1 : Int32), Oa) else none) (fun v5 =>
    gd (inb (0 : Int32) 1) (
      some ((0 : Int32), (vp_updL Oa ((0 : Int32)).toNatClampNeg ((v5).toInt64)))))
def fL_rotations (N : Nat) (Tn : Int32) (Ta : (Nat → Int32)) (Ba : (Nat → Int32)) (Oa : (Nat → Int64)) (p1 : Int32) (p2 : Int32) : Option (Int32 × (Nat → Int32) × (Nat → Int64)) :=
  bx (fX8_rotations N Tn Ta Ba p1 p2) (fun z5 => if z5.1 = 0 then some ((1 : Int32), z5.2, Oa) else none) (fun v5 =>
    gd (inb (0 : Int32) 1) (
      some ((0 : Int32), v5.2, (vp_updL Oa ((0 : Int32)).toNatClampNeg ((v5.1).toInt64)))))
def fL_isNecklace_J16 (N : Nat) (Tn : Int32) (Ta : (Nat → Int32)) (Oa : (Nat → Int64)) (y1 : Int32) (y2 : Int64) : Option (Int32 × (Nat → Int64)) :=
  gd (inb y1 1) (
    some ((0 : Int32), (vp_updL Oa (y1).toNatClampNeg y2)))
def fL_isNecklace (N : Nat) (Tn : Int32) (Ta : (Nat → Int32)) (Oa : (Nat → Int64)) (p1 : Int32) (p2 : Int32) : Option (Int32 × (Nat → Int64)) :=
  bx (fX8_isNecklace N Tn Ta p1 p2) (fun z5 => if z5 = 0 then some ((1 : Int32), Oa) else none) (fun v5 =>
    if v5 = 0 then
      fL_isNecklace_J16 N Tn Ta Oa (0 : Int32) (0 : Int64)
    else
      fL_isNecklace_J16 N Tn Ta Oa (0 : Int32) (1 : Int64))
def fL_period (N : Nat) (Tn : Int32) (Ta : (Nat → Int32)) (Ba : (Nat → Int32)) (Oa : (Nat → Int64)) (p1 : Int32) (p2 : Int32) : Option (Int32 × (Nat → Int32) × (Nat → Int64)) :=
  bx (fX8_period N Tn Ta Ba p1 p2) (fun z5 => if z5.1 = 0 then some ((1 : Int32), z5.2, Oa) else none) (fun v5 =>
    gd (inb (0 : Int32) 1) (
      some ((0 : Int32), v5.2, (vp_updL Oa ((0 : Int32)).toNatClampNeg ((v5.1).toInt64)))))
def fL_periodByTrying (N : Nat) (Tn : Int32) (Ta : (Nat → Int32)) (Oa : (Nat → Int64)) (p1 : Int32) (p2 : Int32) : Option (Int32 × (Nat → Int64)) :=
  bx (fX8_periodByTrying N Tn Ta p1 p2) (fun z5 => if z5 = 0 then some ((1 : Int32), Oa) else none) (fun v5 =>
    gd (inb (0 : Int32) 1) (
      some ((0 : Int32), (vp_updL Oa ((0 : Int32)).toNatClampNeg ((v5).toInt64)))))
def fL_isPeriod_J18 (N : Nat) (Tn : Int32) (Ta : (Nat → Int32)) (Oa : (Nat → Int64)) (y1 : Int32) (y2 : Int64) : Option (Int32 × (Nat → Int64)) :=
  gd (inb y1 1) (
    some ((0 : Int32), (vp_updL Oa (y1).toNatClampNeg y2)))
def fL_isPeriod (N : Nat) (Tn : Int32) (Ta : (Nat → Int32)) (Oa : (Nat → Int64)) (p1 : Int32) (p2 : Int32) (p3 : Int32) : Option (Int32 × (Nat → Int64)) :=
  bx (fX8_isPeriod N Tn Ta p1 p2 p3) (fun z7 => if z7 = 0 then some ((1 : Int32), Oa) else if z7 = 1 then some ((2 : Int32), Oa) else none) (fun v7 =>
    if v7 = 0 then
      fL_isPeriod_J18 N Tn Ta Oa (0 : Int32) (0 : Int64)
    else
      fL_isPeriod_J18 N Tn Ta Oa (0 : Int32) (1 : Int64))
def fL_periods (N : Nat) (Tn : Int32) (Ta : (Nat → Int32)) (Ba : (Nat → Int32)) (Oa : (Nat → Int64)) (p1 : Int32) (p2 : Int32) : Option (Int32 × (Nat → Int32) × (Nat → Int64)) :=
  bx (fX8_periods N Tn Ta Ba p1 p2) (fun z5 => if z5.1 = 0 then some ((1 : Int32), z5.2, Oa) else none) (fun v5 =>
    gd (inb (0 : Int32) 1) (
      some ((0 : Int32), v5.2, (vp_updL Oa ((0 : Int32)).toNatClampNeg ((v5.1).toInt64)))))
def fL_border (N : Nat) (Tn : Int32) (Ta : (Nat → Int32)) (Ba : (Nat → Int32)) (Oa : (Nat → Int64)) (p1 : Int32) (p2 : Int32) : Option (Int32 × (Nat → Int32) × (Nat → Int64)) :=
  bx (fX8_border N Tn Ta Ba p1 p2) (fun z5 => if z5.1 = 0 then some ((1 : Int32), z5.2, Oa) else none) (fun v5 =>
    gd (inb (0 : Int32) 1) (
      some ((0 : Int32), v5.2, (vp_updL Oa ((0 : Int32)).toNatClampNeg ((v5.1).toInt64)))))
def fL_rootLength (N : Nat) (Tn : Int32) (Ta : (Nat → Int32)) (Ba : (Nat → Int32)) (Oa : (Nat → Int64)) (p1 : Int32) (p2 : Int32) : Option (Int32 × (Nat → Int32) × (Nat → Int64)) :=
  bx (fX8_rootLength N Tn Ta Ba p1 p2) (fun z5 => if z5.1 = 0 then some ((1 : Int32), z5.2, Oa) else none) (fun v5 =>
    gd (inb (0 : Int32) 1) (
      some ((0 : Int32), v5.2, (vp_updL Oa ((0 : Int32)).toNatClampNeg ((v5.1).toInt64)))))
def fL_exponent (N : Nat) (Tn : Int32) (Ta : (Nat → Int32)) (Ba : (Nat → Int32)) (Od : (Nat → UInt64)) (p1 : Int32) (p2 : Int32) : Option (Int32 × (Nat → Int32) × (Nat → UInt64)) :=
  bx (fX8_exponent N Tn Ta Ba p1 p2) (fun z5 => if z5.1 = 0 then some ((1 : Int32), z5.2, Od) else none) (fun v5 =>
    gd (inb (0 : Int32) 1) (
      some ((0 : Int32), v5.2, (vf_upd Od ((0 : Int32)).toNatClampNeg v5.1))))
def fL_runStart (N : Nat) (Tn : Int32) (Ta : (Nat → Int32)) (Rn : Int32) (Ra : (Nat → Int32)) (Rb : (Nat → Int32)) (Rd : (Nat → Int32)) (Oa : (Nat → Int64)) (p1 : Int32) : Option (Int32 × Int32 × (Nat → Int32) × (Nat → Int32) × (Nat → Int32) × (Nat → Int64)) :=
  bx (fX8_runStart N Tn Ta Rn Ra Rb Rd p1) (fun z4 => if z4.1 = 0 then some ((1 : Int32), z4.2.1, z4.2.2.1, z4.2.2.2.1, z4.2.2.2.2, Oa) else none) (fun v4 =>
    gd (inb (0 : Int32) 1) (
      some ((0 : Int32), v4.2.1, v4.2.2.1, v4.2.2.2.1, v4.2.2.2.2, (vp_updL Oa ((0 : Int32)).toNatClampNeg ((v4.1).toInt64)))))
def fL_runEnd (N : Nat) (Tn : Int32) (Ta : (Nat → Int32)) (Rn : Int32) (Ra : (Nat → Int32)) (Rb : (Nat → Int32)) (Rd : (Nat → Int32)) (Oa : (Nat → Int64)) (p1 : Int32) : Option (Int32 × Int32 × (Nat → Int32) × (Nat → Int32) × (Nat → Int32) × (Nat → Int64)) :=
  bx (fX8_runEnd N Tn Ta Rn Ra Rb Rd p1) (fun z4 => if z4.1 = 0 then some ((1 : Int32), z4.2.1, z4.2.2.1, z4.2.2.2.1, z4.2.2.2.2, Oa) else none) (fun v4 =>
    gd (inb (0 : Int32) 1) (
      some ((0 : Int32), v4.2.1, v4.2.2.1, v4.2.2.2.1, v4.2.2.2.2, (vp_updL Oa ((0 : Int32)).toNatClampNeg ((v4.1).toInt64)))))
def fL_runPeriod (N : Nat) (Tn : Int32) (Ta : (Nat → Int32)) (Rn : Int32) (Ra : (Nat → Int32)) (Rb : (Nat → Int32)) (Rd : (Nat → Int32)) (Oa : (Nat → Int64)) (p1 : Int32) : Option (Int32 × Int32 × (Nat → Int32) × (Nat → Int32) × (Nat → Int32) × (Nat → Int64)) :=
  bx (fX8_runPeriod N Tn Ta Rn Ra Rb Rd p1) (fun z4 => if z4.1 = 0 then some ((1 : Int32), z4.2.1, z4.2.2.1, z4.2.2.2.1, z4.2.2.2.2, Oa) else none) (fun v4 =>
    gd (inb (0 : Int32) 1) (
      some ((0 : Int32), v4.2.1, v4.2.2.1, v4.2.2.2.1, v4.2.2.2.2, (vp_updL Oa ((0 : Int32)).toNatClampNeg ((v4.1).toInt64)))))
def fL_runsOver (N : Nat) (Tn : Int32) (Ta : (Nat → Int32)) (Rn : Int32) (Ra : (Nat → Int32)) (Rb : (Nat → Int32)) (Rd : (Nat → Int32)) (Oa : (Nat → Int64)) (p1 : Int32) : Option (Int32 × Int32 × (Nat → Int32) × (Nat → Int32) × (Nat → Int32) × (Nat → Int64)) :=
  bx (fX8_runsOver N Tn Ta Rn Ra Rb Rd p1) (fun z4 => if z4.1 = 0 then some ((1 : Int32), z4.2.1, z4.2.2.1, z4.2.2.2.1, z4.2.2.2.2, Oa) else none) (fun v4 =>
    gd (inb (0 : Int32) 1) (
      some ((0 : Int32), v4.2.1, v4.2.2.1, v4.2.2.2.1, v4.2.2.2.2, (vp_updL Oa ((0 : Int32)).toNatClampNeg ((v4.1).toInt64)))))
def fL_suffixAt (N : Nat) (Tn : Int32) (Ta : (Nat → Int32)) (Ua : (Nat → Int32)) (Oa : (Nat → Int64)) (p1 : Int32) : Option (Int32 × (Nat → Int32) × (Nat → Int64)) :=
  bx (fX8_suffixAt N Tn Ta Ua p1) (fun z4 => if z4.1 = 0 then some ((1 : Int32), z4.2, Oa) else none) (fun v4 =>
    gd (inb (0 : Int32) 1) (
      some ((0 : Int32), v4.2, (vp_updL Oa ((0 : Int32)).toNatClampNeg ((v4.1).toInt64)))))
def fL_rankOf (N : Nat) (Tn : Int32) (Ta : (Nat → Int32)) (Ua : (Nat → Int32)) (Oa : (Nat → Int64)) (p1 : Int32) : Option (Int32 × (Nat → Int32) × (Nat → Int64)) :=
  bx (fX8_rankOf N Tn Ta Ua p1) (fun z4 => if z4.1 = 0 then some ((1 : Int32), z4.2, Oa) else none) (fun v4 =>
    gd (inb (0 : Int32) 1) (
      some ((0 : Int32), v4.2, (vp_updL Oa ((0 : Int32)).toNatClampNeg ((v4.1).toInt64)))))
def fL_necklaces (N : Nat) (Oa : (Nat → Int64)) (p1 : Int32) (p2 : Int32) : Option (Int32 × (Nat → Int64)) :=
  bx (fX8_necklaces N p1 p2) (fun z5 => if z5 = 1 then some ((1 : Int32), Oa) else none) (fun v5 =>
    gd (inb (0 : Int32) 1) (
      some ((0 : Int32), (vp_updL Oa ((0 : Int32)).toNatClampNeg v5))))
def fL_lyndonWords (N : Nat) (Oa : (Nat → Int64)) (p1 : Int32) (p2 : Int32) : Option (Int32 × (Nat → Int64)) :=
  bx (fX8_lyndonWords N p1 p2) (fun z5 => if z5 = 1 then some ((1 : Int32), Oa) else none) (fun v5 =>
    gd (inb (0 : Int32) 1) (
      some ((0 : Int32), (vp_updL Oa ((0 : Int32)).toNatClampNeg v5))))
def fL_necklaceNumber (N : Nat) (Tn : Int32) (Ta : (Nat → Int32)) (Wg : Int32) (Wz : Int32) (Ww : Int32) (Wr : Int32) (Oa : (Nat → Int64)) (p1 : Int32) (p2 : Int32) (p3 : Int32) : Option (Int32 × Int32 × Int32 × Int32 × Int32 × (Nat → Int64)) :=
  bx (fX8_necklaceNumber N Tn Ta Wg Wz Ww Wr p1 p2 p3) (fun z7 => if z7.1 = 0 then some ((1 : Int32), z7.2.1, z7.2.2.1, z7.2.2.2.1, z7.2.2.2.2, Oa) else if z7.1 = 1 then some ((2 : Int32), z7.2.1, z7.2.2.1, z7.2.2.2.1, z7.2.2.2.2, Oa) else if z7.1 = 2 then some ((3 : Int32), z7.2.1, z7.2.2.1, z7.2.2.2.1, z7.2.2.2.2, Oa) else none) (fun v7 =>
    gd (inb (0 : Int32) 1) (
      some ((0 : Int32), v7.2.1, v7.2.2.1, v7.2.2.2.1, v7.2.2.2.2, (vp_updL Oa ((0 : Int32)).toNatClampNeg ((v7.1).toInt64)))))
