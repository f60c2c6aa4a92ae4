def fL_law_J72 (N : Nat) (L : Nat) (xs : Nat → Int32) (QUa : (Nat → Int32)) (Tn : Int32) (Ta : (Nat → Int32)) (Fn : Int32) (Fa : (Nat → Int32)) (Ba : (Nat → Int32)) (Rn : Int32) (Ra : (Nat → Int32)) (Rb : (Nat → Int32)) (Rd : (Nat → Int32)) (Ua : (Nat → Int32)) (Wg : Int32) (Wz : Int32) (Ww : Int32) (Wr : Int32) (QTn : Int32) (QTa : (Nat → Int32)) (QFn : Int32) (QFa : (Nat → Int32)) (QBa : (Nat → Int32)) (QRn : Int32) (QRa : (Nat → Int32)) (QRb : (Nat → Int32)) (QRd : (Nat → Int32)) (QWg : Int32) (QWz : Int32) (QWw : Int32) (QWr : Int32) : Option Int32 :=
  gd (isB (0 : Int32)) (some (0 : Int32))
def fL_law_J186 (N : Nat) (L : Nat) (xs : Nat → Int32) (QUa : (Nat → Int32)) (Tn : Int32) (Ta : (Nat → Int32)) (Fn : Int32) (Fa : (Nat → Int32)) (Ba : (Nat → Int32)) (Rn : Int32) (Ra : (Nat → Int32)) (Rb : (Nat → Int32)) (Rd : (Nat → Int32)) (Ua : (Nat → Int32)) (Wg : Int32) (Wz : Int32) (Ww : Int32) (Wr : Int32) (QTn : Int32) (QTa : (Nat → Int32)) (QFn : Int32) (QFa : (Nat → Int32)) (QBa : (Nat → Int32)) (QRn : Int32) (QRa : (Nat → Int32)) (QRb : (Nat → Int32)) (QRd : (Nat → Int32)) (QWg : Int32) (QWz : Int32) (QWw : Int32) (QWr : Int32) : Option Int32 :=
  gd (isB (0 : Int32)) (some (0 : Int32))
def fL_law_J194 (N : Nat) (L : Nat) (xs : Nat → Int32) (QUa : (Nat → Int32)) (Tn : Int32) (Ta : (Nat → Int32)) (Fn : Int32) (Fa : (Nat → Int32)) (Ba : (Nat → Int32)) (Rn : Int32) (Ra : (Nat → Int32)) (Rb : (Nat → Int32)) (Rd : (Nat → Int32)) (Ua : (Nat → Int32)) (Wg : Int32) (Wz : Int32) (Ww : Int32) (Wr : Int32) (QTn : Int32) (QTa : (Nat → Int32)) (QFn : Int32) (QFa : (Nat → Int32)) (QBa : (Nat → Int32)) (QRn : Int32) (QRa : (Nat → Int32)) (QRb : (Nat → Int32)) (QRd : (Nat → Int32)) (QWg : Int32) (QWz : Int32) (QWw : Int32) (QWr : Int32) : Option Int32 :=
  gd (isB (1 : Int32)) (some (1 : Int32))
def fL_law_J162 (N : Nat) (L : Nat) (xs : Nat → Int32) (QUa : (Nat → Int32)) (Tn : Int32) (Ta : (Nat → Int32)) (Fn : Int32) (Fa : (Nat → Int32)) (Ba : (Nat → Int32)) (Rn : Int32) (Ra : (Nat → Int32)) (Rb : (Nat → Int32)) (Rd : (Nat → Int32)) (Ua : (Nat → Int32)) (Wg : Int32) (Wz : Int32) (Ww : Int32) (Wr : Int32) (QTn : Int32) (QTa : (Nat → Int32)) (QFn : Int32) (QFa : (Nat → Int32)) (QBa : (Nat → Int32)) (QRn : Int32) (QRa : (Nat → Int32)) (QRb : (Nat → Int32)) (QRd : (Nat → Int32)) (QWg : Int32) (QWz : Int32) (QWw : Int32) (QWr : Int32) : Option Int32 :=
  gd (isB (0 : Int32)) (some (0 : Int32))
def fL_law_J188 (N : Nat) (L : Nat) (xs : Nat → Int32) (QUa : (Nat → Int32)) (k18 : Int32 → (Nat → Int32) → Int32 → (Nat → Int32) → (Nat → Int32) → Int32 → (Nat → Int32) → (Nat → Int32) → (Nat → Int32) → (Nat → Int32) → Int32 → Int32 → Int32 → Int32 → Int32 → (Nat → Int32) → Int32 → (Nat → Int32) → (Nat → Int32) → Int32 → (Nat → Int32) → (Nat → Int32) → (Nat → Int32) → Int32 → Int32 → Int32 → Int32 → Int32 → Option Int32) (Tn : Int32) (Ta : (Nat → Int32)) (Fn : Int32) (Fa : (Nat → Int32)) (Ba : (Nat → Int32)) (Rn : Int32) (Ra : (Nat → Int32)) (Rb : (Nat → Int32)) (Rd : (Nat → Int32)) (Ua : (Nat → Int32)) (Wg : Int32) (Wz : Int32) (Ww : Int32) (Wr : Int32) (QTn : Int32) (QTa : (Nat → Int32)) (QFn : Int32) (QFa : (Nat → Int32)) (QBa : (Nat → Int32)) (QRn : Int32) (QRa : (Nat → Int32)) (QRb : (Nat → Int32)) (QRd : (Nat → Int32)) (QWg : Int32) (QWz : Int32) (QWw : Int32) (QWr : Int32) (x3 : Int32) : Option Int32 :=
  k18 Tn Ta Fn Fa Ba Rn Ra Rb Rd Ua Wg Wz Ww Wr QTn QTa QFn QFa QBa QRn QRa QRb QRd QWg QWz QWw QWr (x3 + 1)
def fL_law_J164 (N : Nat) (L : Nat) (xs : Nat → Int32) (QUa : (Nat → Int32)) (k18 : Int32 → (Nat → Int32) → Int32 → (Nat → Int32) → (Nat → Int32) → Int32 → (Nat → Int32) → (Nat → Int32) → (Nat → Int32) → (Nat → Int32) → Int32 → Int32 → Int32 → Int32 → Int32 → (Nat → Int32) → Int32 → (Nat → Int32) → (Nat → Int32) → Int32 → (Nat → Int32) → (Nat → Int32) → (Nat → Int32) → Int32 → Int32 → Int32 → Int32 → Int32 → Option Int32) (Tn : Int32) (Ta : (Nat → Int32)) (Fn : Int32) (Fa : (Nat → Int32)) (Ba : (Nat → Int32)) (Rn : Int32) (Ra : (Nat → Int32)) (Rb : (Nat → Int32)) (Rd : (Nat → Int32)) (Ua : (Nat → Int32)) (Wg : Int32) (Wz : Int32) (Ww : Int32) (Wr : Int32) (QTn : Int32) (QTa : (Nat → Int32)) (QFn : Int32) (QFa : (Nat → Int32)) (QBa : (Nat → Int32)) (QRn : Int32) (QRa : (Nat → Int32)) (QRb : (Nat → Int32)) (QRd : (Nat → Int32)) (QWg : Int32) (QWz : Int32) (QWw : Int32) (QWr : Int32) (x3 : Int32) : Option Int32 :=
  gd (nz (6 : Int32)) (
    if (x3 - x3 / (6 : Int32) * (6 : Int32)) = (5 : Int32) then
      bn (fL_areSuffixesSo N Tn Ta Fn Fa Ua) (fun v173 =>
        if v173.1 = 0 then
          fL_law_J186 N L xs QUa Tn Ta v173.2.1 v173.2.2.1 Ba Rn Ra Rb Rd v173.2.2.2 Wg Wz Ww Wr QTn QTa QFn QFa QBa QRn QRa QRb QRd QWg QWz QWw QWr
        else
          bn (fL_areRunsSo N Tn Ta Ba Rn Ra Rb Rd) (fun v180 =>
            if v180.1 = 0 then
              fL_law_J186 N L xs QUa Tn Ta v173.2.1 v173.2.2.1 v180.2.1 v180.2.2.1 v180.2.2.2.1 v180.2.2.2.2.1 v180.2.2.2.2.2 v173.2.2.2 Wg Wz Ww Wr QTn QTa QFn QFa QBa QRn QRa QRb QRd QWg QWz QWw QWr
            else
              fL_law_J188 N L xs QUa k18 Tn Ta v173.2.1 v173.2.2.1 v180.2.1 v180.2.2.1 v180.2.2.2.1 v180.2.2.2.2.1 v180.2.2.2.2.2 v173.2.2.2 Wg Wz Ww Wr QTn QTa QFn QFa QBa QRn QRa QRb QRd QWg QWz QWw QWr x3))
    else
      fL_law_J188 N L xs QUa k18 Tn Ta Fn Fa Ba Rn Ra Rb Rd Ua Wg Wz Ww Wr QTn QTa QFn QFa QBa QRn QRa QRb QRd QWg QWz QWw QWr x3)
def fL_law_J130 (N : Nat) (L : Nat) (xs : Nat → Int32) (QUa : (Nat → Int32)) (k18 : Int32 → (Nat → Int32) → Int32 → (Nat → Int32) → (Nat → Int32) → Int32 → (Nat → Int32) → (Nat → Int32) → (Nat → Int32) → (Nat → Int32) → Int32 → Int32 → Int32 → Int32 → Int32 → (Nat → Int32) → Int32 → (Nat → Int32) → (Nat → Int32) → Int32 → (Nat → Int32) → (Nat → Int32) → (Nat → Int32) → Int32 → Int32 → Int32 → Int32 → Int32 → Option Int32) (Tn : Int32) (Ta : (Nat → Int32)) (Fn : Int32) (Fa : (Nat → Int32)) (Ba : (Nat → Int32)) (Rn : Int32) (Ra : (Nat → Int32)) (Rb : (Nat → Int32)) (Rd : (Nat → Int32)) (Ua : (Nat → Int32)) (Wg : Int32) (Wz : Int32) (Ww : Int32) (Wr : Int32) (QTn : Int32) (QTa : (Nat → Int32)) (QFn : Int32) (QFa : (Nat → Int32)) (QBa : (Nat → Int32)) (QRn : Int32) (QRa : (Nat → Int32)) (QRb : (Nat → Int32)) (QRd : (Nat → Int32)) (QWg : Int32) (QWz : Int32) (QWw : Int32) (QWr : Int32) (x3 : Int32) (x6 : Int32) (y0 : Int32) : Option Int32 :=
  bn (fX8_length N Tn) (fun v133 =>
    if v133 ≤ 0 then
      fL_law_J164 N L xs QUa k18 Tn Ta Fn Fa Ba Rn Ra Rb Rd Ua Wg Wz Ww Wr QTn QTa QFn QFa QBa QRn QRa QRb QRd QWg QWz QWw QWr x3
    else
      bn (fL_isPartSo N Tn Ta Ba x6 y0) (fun v144 =>
        if v144.1 = 0 then
          fL_law_J162 N L xs QUa Tn Ta Fn Fa v144.2 Rn Ra Rb Rd Ua Wg Wz Ww Wr QTn QTa QFn QFa QBa QRn QRa QRb QRd QWg QWz QWw QWr
        else
          bn (fX8_length N Tn) (fun v153 =>
            bn (fL_isPartSo N QTn QTa QBa (0 : Int32) v153) (fun v156 =>
              if v156.1 = 0 then
                fL_law_J162 N L xs QUa Tn Ta Fn Fa v144.2 Rn Ra Rb Rd Ua Wg Wz Ww Wr QTn QTa QFn QFa v156.2 QRn QRa QRb QRd QWg QWz QWw QWr
              else
                fL_law_J164 N L xs QUa k18 Tn Ta Fn Fa v144.2 Rn Ra Rb Rd Ua Wg Wz Ww Wr QTn QTa QFn QFa v156.2 QRn QRa QRb QRd QWg QWz QWw QWr x3))))
def fL_law_J97 (N : Nat) (L : Nat) (xs : Nat → Int32) (QUa : (Nat → Int32)) (k18 : Int32 → (Nat → Int32) → Int32 → (Nat → Int32) → (Nat → Int32) → Int32 → (Nat → Int32) → (Nat → Int32) → (Nat → Int32) → (Nat → Int32) → Int32 → Int32 → Int32 → Int32 → Int32 → (Nat → Int32) → Int32 → (Nat → Int32) → (Nat → Int32) → Int32 → (Nat → Int32) → (Nat → Int32) → (Nat → Int32) → Int32 → Int32 → Int32 → Int32 → Int32 → Option Int32) (Tn : Int32) (Ta : (Nat → Int32)) (Fn : Int32) (Fa : (Nat → Int32)) (Ba : (Nat → Int32)) (Rn : Int32) (Ra : (Nat → Int32)) (Rb : (Nat → Int32)) (Rd : (Nat → Int32)) (Ua : (Nat → Int32)) (Wg : Int32) (Wz : Int32) (Ww : Int32) (Wr : Int32) (QTn : Int32) (QTa : (Nat → Int32)) (QFn : Int32) (QFa : (Nat → Int32)) (QBa : (Nat → Int32)) (QRn : Int32) (QRa : (Nat → Int32)) (QRb : (Nat → Int32)) (QRd : (Nat → Int32)) (QWg : Int32) (QWz : Int32) (QWw : Int32) (QWr : Int32) (x3 : Int32) (x4 : Int32) (y0 : Int32) : Option Int32 :=
  bn (fX8_length N Tn) (fun v100 =>
    if v100 = 0 then
      fL_law_J130 N L xs QUa k18 Tn Ta Fn Fa Ba Rn Ra Rb Rd Ua Wg Wz Ww Wr QTn QTa QFn QFa QBa QRn QRa QRb QRd QWg QWz QWw QWr x3 y0 (0 : Int32)
    else
      bn (fX8_length N Tn) (fun v120 =>
        bn (fL_low N (x4 >>> ((11 : Int32) &&& 31)) (v120 - y0)) (fun v126 =>
          fL_law_J130 N L xs QUa k18 Tn Ta Fn Fa Ba Rn Ra Rb Rd Ua Wg Wz Ww Wr QTn QTa QFn QFa QBa QRn QRa QRb QRd QWg QWz QWw QWr x3 y0 ((y0 + (1 : Int32)) + v126))))
def fL_law_J57 (N : Nat) (L : Nat) (xs : Nat → Int32) (QUa : (Nat → Int32)) (k18 : Int32 → (Nat → Int32) → Int32 → (Nat → Int32) → (Nat → Int32) → Int32 → (Nat → Int32) → (Nat → Int32) → (Nat → Int32) → (Nat → Int32) → Int32 → Int32 → Int32 → Int32 → Int32 → (Nat → Int32) → Int32 → (Nat → Int32) → (Nat → Int32) → Int32 → (Nat → Int32) → (Nat → Int32) → (Nat → Int32) → Int32 → Int32 → Int32 → Int32 → Int32 → Option Int32) (Tn : Int32) (Ta : (Nat → Int32)) (Fn : Int32) (Fa : (Nat → Int32)) (Ba : (Nat → Int32)) (Rn : Int32) (Ra : (Nat → Int32)) (Rb : (Nat → Int32)) (Rd : (Nat → Int32)) (Ua : (Nat → Int32)) (Wg : Int32) (Wz : Int32) (Ww : Int32) (Wr : Int32) (QTn : Int32) (QTa : (Nat → Int32)) (QFn : Int32) (QFa : (Nat → Int32)) (QBa : (Nat → Int32)) (QRn : Int32) (QRa : (Nat → Int32)) (QRb : (Nat → Int32)) (QRd : (Nat → Int32)) (QWg : Int32) (QWz : Int32) (QWw : Int32) (QWr : Int32) (x3 : Int32) (x4 : Int32) : Option Int32 :=
  bn (fL_areAlike N Tn Ta Fn Fa Rn Ra Rb Rd QTn QTa QFn QFa QRn QRa QRb QRd) (fun v59 =>
    if v59.1 = 0 then
      fL_law_J72 N L xs QUa Tn Ta v59.2.1 v59.2.2.1 Ba v59.2.2.2.1 v59.2.2.2.2.1 v59.2.2.2.2.2.1 v59.2.2.2.2.2.2.1 Ua Wg Wz Ww Wr QTn QTa v59.2.2.2.2.2.2.2.1 v59.2.2.2.2.2.2.2.2.1 QBa v59.2.2.2.2.2.2.2.2.2.1 v59.2.2.2.2.2.2.2.2.2.2.1 v59.2.2.2.2.2.2.2.2.2.2.2.1 v59.2.2.2.2.2.2.2.2.2.2.2.2 QWg QWz QWw QWr
    else
      bn (fL_areFactorsSo N Tn Ta v59.2.1 v59.2.2.1) (fun v66 =>
        if v66.1 = 0 then
          fL_law_J72 N L xs QUa Tn Ta v66.2.1 v66.2.2 Ba v59.2.2.2.1 v59.2.2.2.2.1 v59.2.2.2.2.2.1 v59.2.2.2.2.2.2.1 Ua Wg Wz Ww Wr QTn QTa v59.2.2.2.2.2.2.2.1 v59.2.2.2.2.2.2.2.2.1 QBa v59.2.2.2.2.2.2.2.2.2.1 v59.2.2.2.2.2.2.2.2.2.2.1 v59.2.2.2.2.2.2.2.2.2.2.2.1 v59.2.2.2.2.2.2.2.2.2.2.2.2 QWg QWz QWw QWr
        else
          bn (fX8_length N Tn) (fun v75 =>
            if v75 = 0 then
              fL_law_J97 N L xs QUa k18 Tn Ta v66.2.1 v66.2.2 Ba v59.2.2.2.1 v59.2.2.2.2.1 v59.2.2.2.2.2.1 v59.2.2.2.2.2.2.1 Ua Wg Wz Ww Wr QTn QTa v59.2.2.2.2.2.2.2.1 v59.2.2.2.2.2.2.2.2.1 QBa v59.2.2.2.2.2.2.2.2.2.1 v59.2.2.2.2.2.2.2.2.2.2.1 v59.2.2.2.2.2.2.2.2.2.2.2.1 v59.2.2.2.2.2.2.2.2.2.2.2.2 QWg QWz QWw QWr x3 x4 (0 : Int32)
            else
              bn (fX8_length N Tn) (fun v91 =>
                bn (fL_low N (x4 >>> ((6 : Int32) &&& 31)) v91) (fun v94 =>
                  fL_law_J97 N L xs QUa k18 Tn Ta v66.2.1 v66.2.2 Ba v59.2.2.2.1 v59.2.2.2.2.1 v59.2.2.2.2.2.1 v59.2.2.2.2.2.2.1 Ua Wg Wz Ww Wr QTn QTa v59.2.2.2.2.2.2.2.1 v59.2.2.2.2.2.2.2.2.1 QBa v59.2.2.2.2.2.2.2.2.2.1 v59.2.2.2.2.2.2.2.2.2.2.1 v59.2.2.2.2.2.2.2.2.2.2.2.1 v59.2.2.2.2.2.2.2.2.2.2.2.2 QWg QWz QWw QWr x3 x4 v94)))))
def fL_law_B18 (N : Nat) (L : Nat) (xs : Nat → Int32) (QUa : (Nat → Int32)) (k18 : Int32 → (Nat → Int32) → Int32 → (Nat → Int32) → (Nat → Int32) → Int32 → (Nat → Int32) → (Nat → Int32) → (Nat → Int32) → (Nat → Int32) → Int32 → Int32 → Int32 → Int32 → Int32 → (Nat → Int32) → Int32 → (Nat → Int32) → (Nat → Int32) → Int32 → (Nat → Int32) → (Nat → Int32) → (Nat → Int32) → Int32 → Int32 → Int32 → Int32 → Int32 → Option Int32) (Tn : Int32) (Ta : (Nat → Int32)) (Fn : Int32) (Fa : (Nat → Int32)) (Ba : (Nat → Int32)) (Rn : Int32) (Ra : (Nat → Int32)) (Rb : (Nat → Int32)) (Rd : (Nat → Int32)) (Ua : (Nat → Int32)) (Wg : Int32) (Wz : Int32) (Ww : Int32) (Wr : Int32) (QTn : Int32) (QTa : (Nat → Int32)) (QFn : Int32) (QFa : (Nat → Int32)) (QBa : (Nat → Int32)) (QRn : Int32) (QRa : (Nat → Int32)) (QRb : (Nat → Int32)) (QRd : (Nat → Int32)) (QWg : Int32) (QWz : Int32) (QWw : Int32) (QWr : Int32) (x3 : Int32) : Option Int32 :=
  if (48 : Int32) ≤ x3 then
    fL_law_J194 N L xs QUa Tn Ta Fn Fa Ba Rn Ra Rb Rd Ua Wg Wz Ww Wr QTn QTa QFn QFa QBa QRn QRa QRb QRd QWg QWz QWw QWr
  else
    bn (fL_cell N L xs x3) (fun v26 =>
      bn (fL_act N Tn Ta Wg Wz Ww Wr v26) (fun v34 =>
        if v34.1 = (-99999 : Int32) then
          fL_law_J57 N L xs QUa k18 v34.2.1 v34.2.2.1 Fn Fa Ba Rn Ra Rb Rd Ua v34.2.2.2.1 v34.2.2.2.2.1 v34.2.2.2.2.2.1 v34.2.2.2.2.2.2 QTn QTa QFn QFa QBa QRn QRa QRb QRd QWg QWz QWw QWr x3 v26
        else
          bn (fL_act N QTn QTa QWg QWz QWw QWr v26) (fun v49 =>
            if v49.1 = v34.1 then
              fL_law_J57 N L xs QUa k18 v34.2.1 v34.2.2.1 Fn Fa Ba Rn Ra Rb Rd Ua v34.2.2.2.1 v34.2.2.2.2.1 v34.2.2.2.2.2.1 v34.2.2.2.2.2.2 v49.2.1 v49.2.2.1 QFn QFa QBa QRn QRa QRb QRd v49.2.2.2.1 v49.2.2.2.2.1 v49.2.2.2.2.2.1 v49.2.2.2.2.2.2 x3 v26
            else
              fL_law_J72 N L xs QUa v34.2.1 v34.2.2.1 Fn Fa Ba Rn Ra Rb Rd Ua v34.2.2.2.1 v34.2.2.2.2.1 v34.2.2.2.2.2.1 v34.2.2.2.2.2.2 v49.2.1 v49.2.2.1 QFn QFa QBa QRn QRa QRb QRd v49.2.2.2.1 v49.2.2.2.2.1 v49.2.2.2.2.2.1 v49.2.2.2.2.2.2)))
def fL_law_H18 (N : Nat) (L : Nat) (xs : Nat → Int32) (QUa : (Nat → Int32)) : Nat → Int32 → (Nat → Int32) → Int32 → (Nat → Int32) → (Nat → Int32) → Int32 → (Nat → Int32) → (Nat → Int32) → (Nat → Int32) → (Nat → Int32) → Int32 → Int32 → Int32 → Int32 → Int32 → (Nat → Int32) → Int32 → (Nat → Int32) → (Nat → Int32) → Int32 → (Nat → Int32) → (Nat → Int32) → (Nat → Int32) → Int32 → Int32 → Int32 → Int32 → Int32 → Option Int32
  | 0, _, _, _, _, _, _, _, _, _, _, _, _, _, _, _, _, _, _, _, _, _, _, _, _, _, _, _, _ => none
  | n + 1, Tn, Ta, Fn, Fa, Ba, Rn, Ra, Rb, Rd, Ua, Wg, Wz, Ww, Wr, QTn, QTa, QFn, QFa, QBa, QRn, QRa, QRb, QRd, QWg, QWz, QWw, QWr, x3 => fL_law_B18 N L xs QUa (fL_law_H18 N L xs QUa n) Tn Ta Fn Fa Ba Rn Ra Rb Rd Ua Wg Wz Ww Wr QTn QTa QFn QFa QBa QRn QRa QRb QRd QWg QWz QWw QWr x3
def w_0_1_2_3_4_5_6_7_8_9_10_11_12_13_14_15_16_17_18_19_20_21_22_23_24_25_26_27 (q : Nat → Nat) (cI cJ cD : ClassId) (Tn : Int32) (Ta : (Nat → Int32)) (Fn : Int32) (Fa : (Nat → Int32)) (Ba : (Nat → Int32)) (Rn : Int32) (Ra : (Nat → Int32)) (Rb : (Nat → Int32)) (Rd : (Nat → Int32)) (Ua : (Nat → Int32)) (Wg : Int32) (Wz : Int32) (Ww : Int32) (Wr : Int32) (QTn : Int32) (QTa : (Nat → Int32)) (QFn : Int32) (QFa : (Nat → Int32)) (QBa : (Nat → Int32)) (QRn : Int32) (QRa : (Nat → Int32)) (QRb : (Nat → Int32)) (QRd : (Nat → Int32)) (QUa : (Nat → Int32)) (QWg : Int32) (QWz : Int32) (QWw : Int32) (QWr : Int32) : va_W := [(q 0, .inr (6, [.ref (q 1), .ref (q 3), .ref (q 5), .ref (q 7), .ref (q 11), .ref (q 13)])), (q 1, .inr (2, [.ref (q 2), .int Tn])), (q 2, .inl (cI, 64, .inl Ta)), (q 3, .inr (1, [.ref (q 4), .int Fn])), (q 4, .inl (cI, 65, .inl Fa)), (q 5, .inr (0, [.ref (q 6)])), (q 6, .inl (cI, 65, .inl Ba)), (q 7, .inr (4, [.ref (q 8), .ref (q 9), .ref (q 10), .int Rn])), (q 8, .inl (cI, 64, .inl Ra)), (q 9, .inl (cI, 64, .inl Rb)), (q 10, .inl (cI, 64, .inl Rd)), (q 11, .inr (5, [.ref (q 12)])), (q 12, .inl (cI, 65, .inl Ua)), (q 13, .inr (3, [.int Wg, .int Wz, .int Ww, .int Wr])), (q 14, .inr (6, [.ref (q 15), .ref (q 17), .ref (q 19), .ref (q 21), .ref (q 25), .ref (q 27)])), (q 15, .inr (2, [.ref (q 16), .int QTn])), (q 16, .inl (cI, 64, .inl QTa)), (q 17, .inr (1, [.ref (q 18), .int QFn])), (q 18, .inl (cI, 65, .inl QFa)), (q 19, .inr (0, [.ref (q 20)])), (q 20, .inl (cI, 65, .inl QBa)), (q 21, .inr (4, [.ref (q 22), .ref (q 23), .ref (q 24), .int QRn])), (q 22, .inl (cI, 64, .inl QRa)), (q 23, .inl (cI, 64, .inl QRb)), (q 24, .inl (cI, 64, .inl QRd)), (q 25, .inr (5, [.ref (q 26)])), (q 26, .inl (cI, 65, .inl QUa)), (q 27, .inr (3, [.int QWg, .int QWz, .int QWw, .int QWr]))]
