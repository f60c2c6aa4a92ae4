def fL_law_J2052 (N : Nat) (L : Nat) (xs : Nat → Int32) (Tn : Int32) (Ta : (Nat → Int32)) (Fn : Int32) (Fa : (Nat → Int32)) (Ba : (Nat → Int32)) (Rn : Int32) (Ra : (Nat → Int32)) (Rb : (Nat → Int32)) (Rd : (Nat → Int32)) (Ua : (Nat → Int32)) (Wg : Int32) (Wz : Int32) (Ww : Int32) (Wr : Int32) (Mh : Int32) (Mn : Int32) (Mm : Int32) (Mt : (Nat → Int32)) (Mk : (Nat → Int32)) (Ms : (Nat → Int32)) (Me : (Nat → Int32)) (Mp : (Nat → Int32)) (Mw : (Nat → Int32)) (Ml : (Nat → Int32)) (My : (Nat → Int64)) (Oa : (Nat → Int64)) (Od : (Nat → UInt64)) : Option Int32 :=
  gd (isB (0 : Int32)) (some (0 : Int32))
def fL_law_J1550 (N : Nat) (L : Nat) (xs : Nat → Int32) (Tn : Int32) (Ta : (Nat → Int32)) (Fn : Int32) (Fa : (Nat → Int32)) (Ba : (Nat → Int32)) (Rn : Int32) (Ra : (Nat → Int32)) (Rb : (Nat → Int32)) (Rd : (Nat → Int32)) (Ua : (Nat → Int32)) (Wg : Int32) (Wz : Int32) (Ww : Int32) (Wr : Int32) (Mh : Int32) (Mn : Int32) (Mm : Int32) (Mt : (Nat → Int32)) (Mk : (Nat → Int32)) (Ms : (Nat → Int32)) (Me : (Nat → Int32)) (Mp : (Nat → Int32)) (Mw : (Nat → Int32)) (Ml : (Nat → Int32)) (My : (Nat → Int64)) (Oa : (Nat → Int64)) (Od : (Nat → UInt64)) : Option Int32 :=
  gd (isB (0 : Int32)) (some (0 : Int32))
def fL_law_J544 (N : Nat) (L : Nat) (xs : Nat → Int32) (Tn : Int32) (Ta : (Nat → Int32)) (Fn : Int32) (Fa : (Nat → Int32)) (Ba : (Nat → Int32)) (Rn : Int32) (Ra : (Nat → Int32)) (Rb : (Nat → Int32)) (Rd : (Nat → Int32)) (Ua : (Nat → Int32)) (Wg : Int32) (Wz : Int32) (Ww : Int32) (Wr : Int32) (Mh : Int32) (Mn : Int32) (Mm : Int32) (Mt : (Nat → Int32)) (Mk : (Nat → Int32)) (Ms : (Nat → Int32)) (Me : (Nat → Int32)) (Mp : (Nat → Int32)) (Mw : (Nat → Int32)) (Ml : (Nat → Int32)) (My : (Nat → Int64)) (Oa : (Nat → Int64)) (Od : (Nat → UInt64)) : Option Int32 :=
  gd (isB (0 : Int32)) (some (0 : Int32))
def fL_law_J1057 (N : Nat) (L : Nat) (xs : Nat → Int32) (Tn : Int32) (Ta : (Nat → Int32)) (Fn : Int32) (Fa : (Nat → Int32)) (Ba : (Nat → Int32)) (Rn : Int32) (Ra : (Nat → Int32)) (Rb : (Nat → Int32)) (Rd : (Nat → Int32)) (Ua : (Nat → Int32)) (Wg : Int32) (Wz : Int32) (Ww : Int32) (Wr : Int32) (Mh : Int32) (Mn : Int32) (Mm : Int32) (Mt : (Nat → Int32)) (Mk : (Nat → Int32)) (Ms : (Nat → Int32)) (Me : (Nat → Int32)) (Mp : (Nat → Int32)) (Mw : (Nat → Int32)) (Ml : (Nat → Int32)) (My : (Nat → Int64)) (Oa : (Nat → Int64)) (Od : (Nat → UInt64)) : Option Int32 :=
  gd (isB (0 : Int32)) (some (0 : Int32))
def fL_law_J2595 (N : Nat) (L : Nat) (xs : Nat → Int32) (Tn : Int32) (Ta : (Nat → Int32)) (Fn : Int32) (Fa : (Nat → Int32)) (Ba : (Nat → Int32)) (Rn : Int32) (Ra : (Nat → Int32)) (Rb : (Nat → Int32)) (Rd : (Nat → Int32)) (Ua : (Nat → Int32)) (Wg : Int32) (Wz : Int32) (Ww : Int32) (Wr : Int32) (Mh : Int32) (Mn : Int32) (Mm : Int32) (Mt : (Nat → Int32)) (Mk : (Nat → Int32)) (Ms : (Nat → Int32)) (Me : (Nat → Int32)) (Mp : (Nat → Int32)) (Mw : (Nat → Int32)) (Ml : (Nat → Int32)) (My : (Nat → Int64)) (Oa : (Nat → Int64)) (Od : (Nat → UInt64)) : Option Int32 :=
  gd (isB (0 : Int32)) (some (0 : Int32))
def fL_law_J561 (N : Nat) (L : Nat) (xs : Nat → Int32) (Tn : Int32) (Ta : (Nat → Int32)) (Fn : Int32) (Fa : (Nat → Int32)) (Ba : (Nat → Int32)) (Rn : Int32) (Ra : (Nat → Int32)) (Rb : (Nat → Int32)) (Rd : (Nat → Int32)) (Ua : (Nat → Int32)) (Wg : Int32) (Wz : Int32) (Ww : Int32) (Wr : Int32) (Mh : Int32) (Mn : Int32) (Mm : Int32) (Mt : (Nat → Int32)) (Mk : (Nat → Int32)) (Ms : (Nat → Int32)) (Me : (Nat → Int32)) (Mp : (Nat → Int32)) (Mw : (Nat → Int32)) (Ml : (Nat → Int32)) (My : (Nat → Int64)) (Oa : (Nat → Int64)) (Od : (Nat → UInt64)) : Option Int32 :=
  gd (isB (0 : Int32)) (some (0 : Int32))
def fL_law_J2612 (N : Nat) (L : Nat) (xs : Nat → Int32) (Tn : Int32) (Ta : (Nat → Int32)) (Fn : Int32) (Fa : (Nat → Int32)) (Ba : (Nat → Int32)) (Rn : Int32) (Ra : (Nat → Int32)) (Rb : (Nat → Int32)) (Rd : (Nat → Int32)) (Ua : (Nat → Int32)) (Wg : Int32) (Wz : Int32) (Ww : Int32) (Wr : Int32) (Mh : Int32) (Mn : Int32) (Mm : Int32) (Mt : (Nat → Int32)) (Mk : (Nat → Int32)) (Ms : (Nat → Int32)) (Me : (Nat → Int32)) (Mp : (Nat → Int32)) (Mw : (Nat → Int32)) (Ml : (Nat → Int32)) (My : (Nat → Int64)) (Oa : (Nat → Int64)) (Od : (Nat → UInt64)) : Option Int32 :=
  gd (isB (0 : Int32)) (some (0 : Int32))
def fL_law_J2103 (N : Nat) (L : Nat) (xs : Nat → Int32) (Tn : Int32) (Ta : (Nat → Int32)) (Fn : Int32) (Fa : (Nat → Int32)) (Ba : (Nat → Int32)) (Rn : Int32) (Ra : (Nat → Int32)) (Rb : (Nat → Int32)) (Rd : (Nat → Int32)) (Ua : (Nat → Int32)) (Wg : Int32) (Wz : Int32) (Ww : Int32) (Wr : Int32) (Mh : Int32) (Mn : Int32) (Mm : Int32) (Mt : (Nat → Int32)) (Mk : (Nat → Int32)) (Ms : (Nat → Int32)) (Me : (Nat → Int32)) (Mp : (Nat → Int32)) (Mw : (Nat → Int32)) (Ml : (Nat → Int32)) (My : (Nat → Int64)) (Oa : (Nat → Int64)) (Od : (Nat → UInt64)) : Option Int32 :=
  gd (isB (0 : Int32)) (some (0 : Int32))
def fL_law_J1081 (N : Nat) (L : Nat) (xs : Nat → Int32) (Tn : Int32) (Ta : (Nat → Int32)) (Fn : Int32) (Fa : (Nat → Int32)) (Ba : (Nat → Int32)) (Rn : Int32) (Ra : (Nat → Int32)) (Rb : (Nat → Int32)) (Rd : (Nat → Int32)) (Ua : (Nat → Int32)) (Wg : Int32) (Wz : Int32) (Ww : Int32) (Wr : Int32) (Mh : Int32) (Mn : Int32) (Mm : Int32) (Mt : (Nat → Int32)) (Mk : (Nat → Int32)) (Ms : (Nat → Int32)) (Me : (Nat → Int32)) (Mp : (Nat → Int32)) (Mw : (Nat → Int32)) (Ml : (Nat → Int32)) (My : (Nat → Int64)) (Oa : (Nat → Int64)) (Od : (Nat → UInt64)) : Option Int32 :=
  gd (isB (0 : Int32)) (some (0 : Int32))
def fL_law_J2556 (N : Nat) (L : Nat) (xs : Nat → Int32) (Tn : Int32) (Ta : (Nat → Int32)) (Fn : Int32) (Fa : (Nat → Int32)) (Ba : (Nat → Int32)) (Rn : Int32) (Ra : (Nat → Int32)) (Rb : (Nat → Int32)) (Rd : (Nat → Int32)) (Ua : (Nat → Int32)) (Wg : Int32) (Wz : Int32) (Ww : Int32) (Wr : Int32) (Mh : Int32) (Mn : Int32) (Mm : Int32) (Mt : (Nat → Int32)) (Mk : (Nat → Int32)) (Ms : (Nat → Int32)) (Me : (Nat → Int32)) (Mp : (Nat → Int32)) (Mw : (Nat → Int32)) (Ml : (Nat → Int32)) (My : (Nat → Int64)) (Oa : (Nat → Int64)) (Od : (Nat → UInt64)) : Option Int32 :=
  gd (isB (0 : Int32)) (some (0 : Int32))
def fL_law_J1601 (N : Nat) (L : Nat) (xs : Nat → Int32) (Tn : Int32) (Ta : (Nat → Int32)) (Fn : Int32) (Fa : (Nat → Int32)) (Ba : (Nat → Int32)) (Rn : Int32) (Ra : (Nat → Int32)) (Rb : (Nat → Int32)) (Rd : (Nat → Int32)) (Ua : (Nat → Int32)) (Wg : Int32) (Wz : Int32) (Ww : Int32) (Wr : Int32) (Mh : Int32) (Mn : Int32) (Mm : Int32) (Mt : (Nat → Int32)) (Mk : (Nat → Int32)) (Ms : (Nat → Int32)) (Me : (Nat → Int32)) (Mp : (Nat → Int32)) (Mw : (Nat → Int32)) (Ml : (Nat → Int32)) (My : (Nat → Int64)) (Oa : (Nat → Int64)) (Od : (Nat → UInt64)) : Option Int32 :=
  gd (isB (0 : Int32)) (some (0 : Int32))
def fL_law_J2120 (N : Nat) (L : Nat) (xs : Nat → Int32) (Tn : Int32) (Ta : (Nat → Int32)) (Fn : Int32) (Fa : (Nat → Int32)) (Ba : (Nat → Int32)) (Rn : Int32) (Ra : (Nat → Int32)) (Rb : (Nat → Int32)) (Rd : (Nat → Int32)) (Ua : (Nat → Int32)) (Wg : Int32) (Wz : Int32) (Ww : Int32) (Wr : Int32) (Mh : Int32) (Mn : Int32) (Mm : Int32) (Mt : (Nat → Int32)) (Mk : (Nat → Int32)) (Ms : (Nat → Int32)) (Me : (Nat → Int32)) (Mp : (Nat → Int32)) (Mw : (Nat → Int32)) (Ml : (Nat → Int32)) (My : (Nat → Int64)) (Oa : (Nat → Int64)) (Od : (Nat → UInt64)) : Option Int32 :=
  gd (isB (0 : Int32)) (some (0 : Int32))
def fL_law_J1097 (N : Nat) (L : Nat) (xs : Nat → Int32) (Tn : Int32) (Ta : (Nat → Int32)) (Fn : Int32) (Fa : (Nat → Int32)) (Ba : (Nat → Int32)) (Rn : Int32) (Ra : (Nat → Int32)) (Rb : (Nat → Int32)) (Rd : (Nat → Int32)) (Ua : (Nat → Int32)) (Wg : Int32) (Wz : Int32) (Ww : Int32) (Wr : Int32) (Mh : Int32) (Mn : Int32) (Mm : Int32) (Mt : (Nat → Int32)) (Mk : (Nat → Int32)) (Ms : (Nat → Int32)) (Me : (Nat → Int32)) (Mp : (Nat → Int32)) (Mw : (Nat → Int32)) (Ml : (Nat → Int32)) (My : (Nat → Int64)) (Oa : (Nat → Int64)) (Od : (Nat → UInt64)) : Option Int32 :=
  gd (isB (0 : Int32)) (some (0 : Int32))
def fL_law_J1618 (N : Nat) (L : Nat) (xs : Nat → Int32) (Tn : Int32) (Ta : (Nat → Int32)) (Fn : Int32) (Fa : (Nat → Int32)) (Ba : (Nat → Int32)) (Rn : Int32) (Ra : (Nat → Int32)) (Rb : (Nat → Int32)) (Rd : (Nat → Int32)) (Ua : (Nat → Int32)) (Wg : Int32) (Wz : Int32) (Ww : Int32) (Wr : Int32) (Mh : Int32) (Mn : Int32) (Mm : Int32) (Mt : (Nat → Int32)) (Mk : (Nat → Int32)) (Ms : (Nat → Int32)) (Me : (Nat → Int32)) (Mp : (Nat → Int32)) (Mw : (Nat → Int32)) (Ml : (Nat → Int32)) (My : (Nat → Int64)) (Oa : (Nat → Int64)) (Od : (Nat → UInt64)) : Option Int32 :=
  gd (isB (0 : Int32)) (some (0 : Int32))
def fL_law_J612 (N : Nat) (L : Nat) (xs : Nat → Int32) (Tn : Int32) (Ta : (Nat → Int32)) (Fn : Int32) (Fa : (Nat → Int32)) (Ba : (Nat → Int32)) (Rn : Int32) (Ra : (Nat → Int32)) (Rb : (Nat → Int32)) (Rd : (Nat → Int32)) (Ua : (Nat → Int32)) (Wg : Int32) (Wz : Int32) (Ww : Int32) (Wr : Int32) (Mh : Int32) (Mn : Int32) (Mm : Int32) (Mt : (Nat → Int32)) (Mk : (Nat → Int32)) (Ms : (Nat → Int32)) (Me : (Nat → Int32)) (Mp : (Nat → Int32)) (Mw : (Nat → Int32)) (Ml : (Nat → Int32)) (My : (Nat → Int64)) (Oa : (Nat → Int64)) (Od : (Nat → UInt64)) : Option Int32 :=
  gd (isB (0 : Int32)) (some (0 : Int32))
def fL_law_J2663 (N : Nat) (L : Nat) (xs : Nat → Int32) (Tn : Int32) (Ta : (Nat → Int32)) (Fn : Int32) (Fa : (Nat → Int32)) (Ba : (Nat → Int32)) (Rn : Int32) (Ra : (Nat → Int32)) (Rb : (Nat → Int32)) (Rd : (Nat → Int32)) (Ua : (Nat → Int32)) (Wg : Int32) (Wz : Int32) (Ww : Int32) (Wr : Int32) (Mh : Int32) (Mn : Int32) (Mm : Int32) (Mt : (Nat → Int32)) (Mk : (Nat → Int32)) (Ms : (Nat → Int32)) (Me : (Nat → Int32)) (Mp : (Nat → Int32)) (Mw : (Nat → Int32)) (Ml : (Nat → Int32)) (My : (Nat → Int64)) (Oa : (Nat → Int64)) (Od : (Nat → UInt64)) : Option Int32 :=
  gd (isB (0 : Int32)) (some (0 : Int32))
def fL_law_J1133 (N : Nat) (L : Nat) (xs : Nat → Int32) (Tn : Int32) (Ta : (Nat → Int32)) (Fn : Int32) (Fa : (Nat → Int32)) (Ba : (Nat → Int32)) (Rn : Int32) (Ra : (Nat → Int32)) (Rb : (Nat → Int32)) (Rd : (Nat → Int32)) (Ua : (Nat → Int32)) (Wg : Int32) (Wz : Int32) (Ww : Int32) (Wr : Int32) (Mh : Int32) (Mn : Int32) (Mm : Int32) (Mt : (Nat → Int32)) (Mk : (Nat → Int32)) (Ms : (Nat → Int32)) (Me : (Nat → Int32)) (Mp : (Nat → Int32)) (Mw : (Nat → Int32)) (Ml : (Nat → Int32)) (My : (Nat → Int64)) (Oa : (Nat → Int64)) (Od : (Nat → UInt64)) : Option Int32 :=
  gd (isB (0 : Int32)) (some (0 : Int32))
def fL_law_J629 (N : Nat) (L : Nat) (xs : Nat → Int32) (Tn : Int32) (Ta : (Nat → Int32)) (Fn : Int32) (Fa : (Nat → Int32)) (Ba : (Nat → Int32)) (Rn : Int32) (Ra : (Nat → Int32)) (Rb : (Nat → Int32)) (Rd : (Nat → Int32)) (Ua : (Nat → Int32)) (Wg : Int32) (Wz : Int32) (Ww : Int32) (Wr : Int32) (Mh : Int32) (Mn : Int32) (Mm : Int32) (Mt : (Nat → Int32)) (Mk : (Nat → Int32)) (Ms : (Nat → Int32)) (Me : (Nat → Int32)) (Mp : (Nat → Int32)) (Mw : (Nat → Int32)) (Ml : (Nat → Int32)) (My : (Nat → Int64)) (Oa : (Nat → Int64)) (Od : (Nat → UInt64)) : Option Int32 :=
  gd (isB (0 : Int32)) (some (0 : Int32))
def fL_law_J2679 (N : Nat) (L : Nat) (xs : Nat → Int32) (Tn : Int32) (Ta : (Nat → Int32)) (Fn : Int32) (Fa : (Nat → Int32)) (Ba : (Nat → Int32)) (Rn : Int32) (Ra : (Nat → Int32)) (Rb : (Nat → Int32)) (Rd : (Nat → Int32)) (Ua : (Nat → Int32)) (Wg : Int32) (Wz : Int32) (Ww : Int32) (Wr : Int32) (Mh : Int32) (Mn : Int32) (Mm : Int32) (Mt : (Nat → Int32)) (Mk : (Nat → Int32)) (Ms : (Nat → Int32)) (Me : (Nat → Int32)) (Mp : (Nat → Int32)) (Mw : (Nat → Int32)) (Ml : (Nat → Int32)) (My : (Nat → Int64)) (Oa : (Nat → Int64)) (Od : (Nat → UInt64)) : Option Int32 :=
  gd (isB (0 : Int32)) (some (0 : Int32))
def fL_law_J2172 (N : Nat) (L : Nat) (xs : Nat → Int32) (Tn : Int32) (Ta : (Nat → Int32)) (Fn : Int32) (Fa : (Nat → Int32)) (Ba : (Nat → Int32)) (Rn : Int32) (Ra : (Nat → Int32)) (Rb : (Nat → Int32)) (Rd : (Nat → Int32)) (Ua : (Nat → Int32)) (Wg : Int32) (Wz : Int32) (Ww : Int32) (Wr : Int32) (Mh : Int32) (Mn : Int32) (Mm : Int32) (Mt : (Nat → Int32)) (Mk : (Nat → Int32)) (Ms : (Nat → Int32)) (Me : (Nat → Int32)) (Mp : (Nat → Int32)) (Mw : (Nat → Int32)) (Ml : (Nat → Int32)) (My : (Nat → Int64)) (Oa : (Nat → Int64)) (Od : (Nat → UInt64)) : Option Int32 :=
  gd (isB (0 : Int32)) (some (0 : Int32))
def fL_law_J1150 (N : Nat) (L : Nat) (xs : Nat → Int32) (Tn : Int32) (Ta : (Nat → Int32)) (Fn : Int32) (Fa : (Nat → Int32)) (Ba : (Nat → Int32)) (Rn : Int32) (Ra : (Nat → Int32)) (Rb : (Nat → Int32)) (Rd : (Nat → Int32)) (Ua : (Nat → Int32)) (Wg : Int32) (Wz : Int32) (Ww : Int32) (Wr : Int32) (Mh : Int32) (Mn : Int32) (Mm : Int32) (Mt : (Nat → Int32)) (Mk : (Nat → Int32)) (Ms : (Nat → Int32)) (Me : (Nat → Int32)) (Mp : (Nat → Int32)) (Mw : (Nat → Int32)) (Ml : (Nat → Int32)) (My : (Nat → Int64)) (Oa : (Nat → Int64)) (Od : (Nat → UInt64)) : Option Int32 :=
  gd (isB (0 : Int32)) (some (0 : Int32))
def fL_law_J1669 (N : Nat) (L : Nat) (xs : Nat → Int32) (Tn : Int32) (Ta : (Nat → Int32)) (Fn : Int32) (Fa : (Nat → Int32)) (Ba : (Nat → Int32)) (Rn : Int32) (Ra : (Nat → Int32)) (Rb : (Nat → Int32)) (Rd : (Nat → Int32)) (Ua : (Nat → Int32)) (Wg : Int32) (Wz : Int32) (Ww : Int32) (Wr : Int32) (Mh : Int32) (Mn : Int32) (Mm : Int32) (Mt : (Nat → Int32)) (Mk : (Nat → Int32)) (Ms : (Nat → Int32)) (Me : (Nat → Int32)) (Mp : (Nat → Int32)) (Mw : (Nat → Int32)) (Ml : (Nat → Int32)) (My : (Nat → Int64)) (Oa : (Nat → Int64)) (Od : (Nat → UInt64)) : Option Int32 :=
  gd (isB (0 : Int32)) (some (0 : Int32))
def fL_law_J1693 (N : Nat) (L : Nat) (xs : Nat → Int32) (Tn : Int32) (Ta : (Nat → Int32)) (Fn : Int32) (Fa : (Nat → Int32)) (Ba : (Nat → Int32)) (Rn : Int32) (Ra : (Nat → Int32)) (Rb : (Nat → Int32)) (Rd : (Nat → Int32)) (Ua : (Nat → Int32)) (Wg : Int32) (Wz : Int32) (Ww : Int32) (Wr : Int32) (Mh : Int32) (Mn : Int32) (Mm : Int32) (Mt : (Nat → Int32)) (Mk : (Nat → Int32)) (Ms : (Nat → Int32)) (Me : (Nat → Int32)) (Mp : (Nat → Int32)) (Mw : (Nat → Int32)) (Ml : (Nat → Int32)) (My : (Nat → Int64)) (Oa : (Nat → Int64)) (Od : (Nat → UInt64)) : Option Int32 :=
  gd (isB (0 : Int32)) (some (0 : Int32))
def fL_law_J2209 (N : Nat) (L : Nat) (xs : Nat → Int32) (Tn : Int32) (Ta : (Nat → Int32)) (Fn : Int32) (Fa : (Nat → Int32)) (Ba : (Nat → Int32)) (Rn : Int32) (Ra : (Nat → Int32)) (Rb : (Nat → Int32)) (Rd : (Nat → Int32)) (Ua : (Nat → Int32)) (Wg : Int32) (Wz : Int32) (Ww : Int32) (Wr : Int32) (Mh : Int32) (Mn : Int32) (Mm : Int32) (Mt : (Nat → Int32)) (Mk : (Nat → Int32)) (Ms : (Nat → Int32)) (Me : (Nat → Int32)) (Mp : (Nat → Int32)) (Mw : (Nat → Int32)) (Ml : (Nat → Int32)) (My : (Nat → Int64)) (Oa : (Nat → Int64)) (Od : (Nat → UInt64)) : Option Int32 :=
  gd (isB (0 : Int32)) (some (0 : Int32))
def fL_law_J1189 (N : Nat) (L : Nat) (xs : Nat → Int32) (Tn : Int32) (Ta : (Nat → Int32)) (Fn : Int32) (Fa : (Nat → Int32)) (Ba : (Nat → Int32)) (Rn : Int32) (Ra : (Nat → Int32)) (Rb : (Nat → Int32)) (Rd : (Nat → Int32)) (Ua : (Nat → Int32)) (Wg : Int32) (Wz : Int32) (Ww : Int32) (Wr : Int32) (Mh : Int32) (Mn : Int32) (Mm : Int32) (Mt : (Nat → Int32)) (Mk : (Nat → Int32)) (Ms : (Nat → Int32)) (Me : (Nat → Int32)) (Mp : (Nat → Int32)) (Mw : (Nat → Int32)) (Ml : (Nat → Int32)) (My : (Nat → Int64)) (Oa : (Nat → Int64)) (Od : (Nat → UInt64)) : Option Int32 :=
  gd (isB (0 : Int32)) (some (0 : Int32))
def fL_law_J680 (N : Nat) (L : Nat) (xs : Nat → Int32) (Tn : Int32) (Ta : (Nat → Int32)) (Fn : Int32) (Fa : (Nat → Int32)) (Ba : (Nat → Int32)) (Rn : Int32) (Ra : (Nat → Int32)) (Rb : (Nat → Int32)) (Rd : (Nat → Int32)) (Ua : (Nat → Int32)) (Wg : Int32) (Wz : Int32) (Ww : Int32) (Wr : Int32) (Mh : Int32) (Mn : Int32) (Mm : Int32) (Mt : (Nat → Int32)) (Mk : (Nat → Int32)) (Ms : (Nat → Int32)) (Me : (Nat → Int32)) (Mp : (Nat → Int32)) (Mw : (Nat → Int32)) (Ml : (Nat → Int32)) (My : (Nat → Int64)) (Oa : (Nat → Int64)) (Od : (Nat → UInt64)) : Option Int32 :=
  gd (isB (0 : Int32)) (some (0 : Int32))
def fL_law_J2730 (N : Nat) (L : Nat) (xs : Nat → Int32) (Tn : Int32) (Ta : (Nat → Int32)) (Fn : Int32) (Fa : (Nat → Int32)) (Ba : (Nat → Int32)) (Rn : Int32) (Ra : (Nat → Int32)) (Rb : (Nat → Int32)) (Rd : (Nat → Int32)) (Ua : (Nat → Int32)) (Wg : Int32) (Wz : Int32) (Ww : Int32) (Wr : Int32) (Mh : Int32) (Mn : Int32) (Mm : Int32) (Mt : (Nat → Int32)) (Mk : (Nat → Int32)) (Ms : (Nat → Int32)) (Me : (Nat → Int32)) (Mp : (Nat → Int32)) (Mw : (Nat → Int32)) (Ml : (Nat → Int32)) (My : (Nat → Int64)) (Oa : (Nat → Int64)) (Od : (Nat → UInt64)) : Option Int32 :=
  gd (isB (0 : Int32)) (some (0 : Int32))
def fL_law_J2225 (N : Nat) (L : Nat) (xs : Nat → Int32) (Tn : Int32) (Ta : (Nat → Int32)) (Fn : Int32) (Fa : (Nat → Int32)) (Ba : (Nat → Int32)) (Rn : Int32) (Ra : (Nat → Int32)) (Rb : (Nat → Int32)) (Rd : (Nat → Int32)) (Ua : (Nat → Int32)) (Wg : Int32) (Wz : Int32) (Ww : Int32) (Wr : Int32) (Mh : Int32) (Mn : Int32) (Mm : Int32) (Mt : (Nat → Int32)) (Mk : (Nat → Int32)) (Ms : (Nat → Int32)) (Me : (Nat → Int32)) (Mp : (Nat → Int32)) (Mw : (Nat → Int32)) (Ml : (Nat → Int32)) (My : (Nat → Int64)) (Oa : (Nat → Int64)) (Od : (Nat → UInt64)) : Option Int32 :=
  gd (isB (0 : Int32)) (some (0 : Int32))
def fL_law_J1206 (N : Nat) (L : Nat) (xs : Nat → Int32) (Tn : Int32) (Ta : (Nat → Int32)) (Fn : Int32) (Fa : (Nat → Int32)) (Ba : (Nat → Int32)) (Rn : Int32) (Ra : (Nat → Int32)) (Rb : (Nat → Int32)) (Rd : (Nat → Int32)) (Ua : (Nat → Int32)) (Wg : Int32) (Wz : Int32) (Ww : Int32) (Wr : Int32) (Mh : Int32) (Mn : Int32) (Mm : Int32) (Mt : (Nat → Int32)) (Mk : (Nat → Int32)) (Ms : (Nat → Int32)) (Me : (Nat → Int32)) (Mp : (Nat → Int32)) (Mw : (Nat → Int32)) (Ml : (Nat → Int32)) (My : (Nat → Int64)) (Oa : (Nat → Int64)) (Od : (Nat → UInt64)) : Option Int32 :=
  gd (isB (0 : Int32)) (some (0 : Int32))
def fL_law_J697 (N : Nat) (L : Nat) (xs : Nat → Int32) (Tn : Int32) (Ta : (Nat → Int32)) (Fn : Int32) (Fa : (Nat → Int32)) (Ba : (Nat → Int32)) (Rn : Int32) (Ra : (Nat → Int32)) (Rb : (Nat → Int32)) (Rd : (Nat → Int32)) (Ua : (Nat → Int32)) (Wg : Int32) (Wz : Int32) (Ww : Int32) (Wr : Int32) (Mh : Int32) (Mn : Int32) (Mm : Int32) (Mt : (Nat → Int32)) (Mk : (Nat → Int32)) (Ms : (Nat → Int32)) (Me : (Nat → Int32)) (Mp : (Nat → Int32)) (Mw : (Nat → Int32)) (Ml : (Nat → Int32)) (My : (Nat → Int64)) (Oa : (Nat → Int64)) (Od : (Nat → UInt64)) : Option Int32 :=
  gd (isB (0 : Int32)) (some (0 : Int32))
def fL_law_J2746 (N : Nat) (L : Nat) (xs : Nat → Int32) (Tn : Int32) (Ta : (Nat → Int32)) (Fn : Int32) (Fa : (Nat → Int32)) (Ba : (Nat → Int32)) (Rn : Int32) (Ra : (Nat → Int32)) (Rb : (Nat → Int32)) (Rd : (Nat → Int32)) (Ua : (Nat → Int32)) (Wg : Int32) (Wz : Int32) (Ww : Int32) (Wr : Int32) (Mh : Int32) (Mn : Int32) (Mm : Int32) (Mt : (Nat → Int32)) (Mk : (Nat → Int32)) (Ms : (Nat → Int32)) (Me : (Nat → Int32)) (Mp : (Nat → Int32)) (Mw : (Nat → Int32)) (Ml : (Nat → Int32)) (My : (Nat → Int64)) (Oa : (Nat → Int64)) (Od : (Nat → UInt64)) : Option Int32 :=
  gd (isB (0 : Int32)) (some (0 : Int32))
def fL_law_J1744 (N : Nat) (L : Nat) (xs : Nat → Int32) (Tn : Int32) (Ta : (Nat → Int32)) (Fn : Int32) (Fa : (Nat → Int32)) (Ba : (Nat → Int32)) (Rn : Int32) (Ra : (Nat → Int32)) (Rb : (Nat → Int32)) (Rd : (Nat → Int32)) (Ua : (Nat → Int32)) (Wg : Int32) (Wz : Int32) (Ww : Int32) (Wr : Int32) (Mh : Int32) (Mn : Int32) (Mm : Int32) (Mt : (Nat → Int32)) (Mk : (Nat → Int32)) (Ms : (Nat → Int32)) (Me : (Nat → Int32)) (Mp : (Nat → Int32)) (Mw : (Nat → Int32)) (Ml : (Nat → Int32)) (My : (Nat → Int64)) (Oa : (Nat → Int64)) (Od : (Nat → UInt64)) : Option Int32 :=
  gd (isB (0 : Int32)) (some (0 : Int32))
def fL_law_J2261 (N : Nat) (L : Nat) (xs : Nat → Int32) (Tn : Int32) (Ta : (Nat → Int32)) (Fn : Int32) (Fa : (Nat → Int32)) (Ba : (Nat → Int32)) (Rn : Int32) (Ra : (Nat → Int32)) (Rb : (Nat → Int32)) (Rd : (Nat → Int32)) (Ua : (Nat → Int32)) (Wg : Int32) (Wz : Int32) (Ww : Int32) (Wr : Int32) (Mh : Int32) (Mn : Int32) (Mm : Int32) (Mt : (Nat → Int32)) (Mk : (Nat → Int32)) (Ms : (Nat → Int32)) (Me : (Nat → Int32)) (Mp : (Nat → Int32)) (Mw : (Nat → Int32)) (Ml : (Nat → Int32)) (My : (Nat → Int64)) (Oa : (Nat → Int64)) (Od : (Nat → UInt64)) : Option Int32 :=
  gd (isB (0 : Int32)) (some (0 : Int32))
def fL_law_J1245 (N : Nat) (L : Nat) (xs : Nat → Int32) (Tn : Int32) (Ta : (Nat → Int32)) (Fn : Int32) (Fa : (Nat → Int32)) (Ba : (Nat → Int32)) (Rn : Int32) (Ra : (Nat → Int32)) (Rb : (Nat → Int32)) (Rd : (Nat → Int32)) (Ua : (Nat → Int32)) (Wg : Int32) (Wz : Int32) (Ww : Int32) (Wr : Int32) (Mh : Int32) (Mn : Int32) (Mm : Int32) (Mt : (Nat → Int32)) (Mk : (Nat → Int32)) (Ms : (Nat → Int32)) (Me : (Nat → Int32)) (Mp : (Nat → Int32)) (Mw : (Nat → Int32)) (Ml : (Nat → Int32)) (My : (Nat → Int64)) (Oa : (Nat → Int64)) (Od : (Nat → UInt64)) : Option Int32 :=
  gd (isB (0 : Int32)) (some (0 : Int32))
def fL_law_J1761 (N : Nat) (L : Nat) (xs : Nat → Int32) (Tn : Int32) (Ta : (Nat → Int32)) (Fn : Int32) (Fa : (Nat → Int32)) (Ba : (Nat → Int32)) (Rn : Int32) (Ra : (Nat → Int32)) (Rb : (Nat → Int32)) (Rd : (Nat → Int32)) (Ua : (Nat → Int32)) (Wg : Int32) (Wz : Int32) (Ww : Int32) (Wr : Int32) (Mh : Int32) (Mn : Int32) (Mm : Int32) (Mt : (Nat → Int32)) (Mk : (Nat → Int32)) (Ms : (Nat → Int32)) (Me : (Nat → Int32)) (Mp : (Nat → Int32)) (Mw : (Nat → Int32)) (Ml : (Nat → Int32)) (My : (Nat → Int64)) (Oa : (Nat → Int64)) (Od : (Nat → UInt64)) : Option Int32 :=
  gd (isB (0 : Int32)) (some (0 : Int32))
def fL_law_J2278 (N : Nat) (L : Nat) (xs : Nat → Int32) (Tn : Int32) (Ta : (Nat → Int32)) (Fn : Int32) (Fa : (Nat → Int32)) (Ba : (Nat → Int32)) (Rn : Int32) (Ra : (Nat → Int32)) (Rb : (Nat → Int32)) (Rd : (Nat → Int32)) (Ua : (Nat → Int32)) (Wg : Int32) (Wz : Int32) (Ww : Int32) (Wr : Int32) (Mh : Int32) (Mn : Int32) (Mm : Int32) (Mt : (Nat → Int32)) (Mk : (Nat → Int32)) (Ms : (Nat → Int32)) (Me : (Nat → Int32)) (Mp : (Nat → Int32)) (Mw : (Nat → Int32)) (Ml : (Nat → Int32)) (My : (Nat → Int64)) (Oa : (Nat → Int64)) (Od : (Nat → UInt64)) : Option Int32 :=
  gd (isB (0 : Int32)) (some (0 : Int32))
def fL_law_J1262 (N : Nat) (L : Nat) (xs : Nat → Int32) (Tn : Int32) (Ta : (Nat → Int32)) (Fn : Int32) (Fa : (Nat → Int32)) (Ba : (Nat → Int32)) (Rn : Int32) (Ra : (Nat → Int32)) (Rb : (Nat → Int32)) (Rd : (Nat → Int32)) (Ua : (Nat → Int32)) (Wg : Int32) (Wz : Int32) (Ww : Int32) (Wr : Int32) (Mh : Int32) (Mn : Int32) (Mm : Int32) (Mt : (Nat → Int32)) (Mk : (Nat → Int32)) (Ms : (Nat → Int32)) (Me : (Nat → Int32)) (Mp : (Nat → Int32)) (Mw : (Nat → Int32)) (Ml : (Nat → Int32)) (My : (Nat → Int64)) (Oa : (Nat → Int64)) (Od : (Nat → UInt64)) : Option Int32 :=
  gd (isB (0 : Int32)) (some (0 : Int32))
def fL_law_J760 (N : Nat) (L : Nat) (xs : Nat → Int32) (Tn : Int32) (Ta : (Nat → Int32)) (Fn : Int32) (Fa : (Nat → Int32)) (Ba : (Nat → Int32)) (Rn : Int32) (Ra : (Nat → Int32)) (Rb : (Nat → Int32)) (Rd : (Nat → Int32)) (Ua : (Nat → Int32)) (Wg : Int32) (Wz : Int32) (Ww : Int32) (Wr : Int32) (Mh : Int32) (Mn : Int32) (Mm : Int32) (Mt : (Nat → Int32)) (Mk : (Nat → Int32)) (Ms : (Nat → Int32)) (Me : (Nat → Int32)) (Mp : (Nat → Int32)) (Mw : (Nat → Int32)) (Ml : (Nat → Int32)) (My : (Nat → Int64)) (Oa : (Nat → Int64)) (Od : (Nat → UInt64)) : Option Int32 :=
  gd (isB (0 : Int32)) (some (0 : Int32))
def fL_law_J2809 (N : Nat) (L : Nat) (xs : Nat → Int32) (Tn : Int32) (Ta : (Nat → Int32)) (Fn : Int32) (Fa : (Nat → Int32)) (Ba : (Nat → Int32)) (Rn : Int32) (Ra : (Nat → Int32)) (Rb : (Nat → Int32)) (Rd : (Nat → Int32)) (Ua : (Nat → Int32)) (Wg : Int32) (Wz : Int32) (Ww : Int32) (Wr : Int32) (Mh : Int32) (Mn : Int32) (Mm : Int32) (Mt : (Nat → Int32)) (Mk : (Nat → Int32)) (Ms : (Nat → Int32)) (Me : (Nat → Int32)) (Mp : (Nat → Int32)) (Mw : (Nat → Int32)) (Ml : (Nat → Int32)) (My : (Nat → Int64)) (Oa : (Nat → Int64)) (Od : (Nat → UInt64)) : Option Int32 :=
  gd (isB (0 : Int32)) (some (0 : Int32))
def fL_law_J777 (N : Nat) (L : Nat) (xs : Nat → Int32) (Tn : Int32) (Ta : (Nat → Int32)) (Fn : Int32) (Fa : (Nat → Int32)) (Ba : (Nat → Int32)) (Rn : Int32) (Ra : (Nat → Int32)) (Rb : (Nat → Int32)) (Rd : (Nat → Int32)) (Ua : (Nat → Int32)) (Wg : Int32) (Wz : Int32) (Ww : Int32) (Wr : Int32) (Mh : Int32) (Mn : Int32) (Mm : Int32) (Mt : (Nat → Int32)) (Mk : (Nat → Int32)) (Ms : (Nat → Int32)) (Me : (Nat → Int32)) (Mp : (Nat → Int32)) (Mw : (Nat → Int32)) (Ml : (Nat → Int32)) (My : (Nat → Int64)) (Oa : (Nat → Int64)) (Od : (Nat → UInt64)) : Option Int32 :=
  gd (isB (0 : Int32)) (some (0 : Int32))
def fL_law_J2826 (N : Nat) (L : Nat) (xs : Nat → Int32) (Tn : Int32) (Ta : (Nat → Int32)) (Fn : Int32) (Fa : (Nat → Int32)) (Ba : (Nat → Int32)) (Rn : Int32) (Ra : (Nat → Int32)) (Rb : (Nat → Int32)) (Rd : (Nat → Int32)) (Ua : (Nat → Int32)) (Wg : Int32) (Wz : Int32) (Ww : Int32) (Wr : Int32) (Mh : Int32) (Mn : Int32) (Mm : Int32) (Mt : (Nat → Int32)) (Mk : (Nat → Int32)) (Ms : (Nat → Int32)) (Me : (Nat → Int32)) (Mp : (Nat → Int32)) (Mw : (Nat → Int32)) (Ml : (Nat → Int32)) (My : (Nat → Int64)) (Oa : (Nat → Int64)) (Od : (Nat → UInt64)) : Option Int32 :=
  gd (isB (0 : Int32)) (some (0 : Int32))
def fL_law_J2317 (N : Nat) (L : Nat) (xs : Nat → Int32) (Tn : Int32) (Ta : (Nat → Int32)) (Fn : Int32) (Fa : (Nat → Int32)) (Ba : (Nat → Int32)) (Rn : Int32) (Ra : (Nat → Int32)) (Rb : (Nat → Int32)) (Rd : (Nat → Int32)) (Ua : (Nat → Int32)) (Wg : Int32) (Wz : Int32) (Ww : Int32) (Wr : Int32) (Mh : Int32) (Mn : Int32) (Mm : Int32) (Mt : (Nat → Int32)) (Mk : (Nat → Int32)) (Ms : (Nat → Int32)) (Me : (Nat → Int32)) (Mp : (Nat → Int32)) (Mw : (Nat → Int32)) (Ml : (Nat → Int32)) (My : (Nat → Int64)) (Oa : (Nat → Int64)) (Od : (Nat → UInt64)) : Option Int32 :=
  gd (isB (0 : Int32)) (some (0 : Int32))
def fL_law_J270 (N : Nat) (L : Nat) (xs : Nat → Int32) (Tn : Int32) (Ta : (Nat → Int32)) (Fn : Int32) (Fa : (Nat → Int32)) (Ba : (Nat → Int32)) (Rn : Int32) (Ra : (Nat → Int32)) (Rb : (Nat → Int32)) (Rd : (Nat → Int32)) (Ua : (Nat → Int32)) (Wg : Int32) (Wz : Int32) (Ww : Int32) (Wr : Int32) (Mh : Int32) (Mn : Int32) (Mm : Int32) (Mt : (Nat → Int32)) (Mk : (Nat → Int32)) (Ms : (Nat → Int32)) (Me : (Nat → Int32)) (Mp : (Nat → Int32)) (Mw : (Nat → Int32)) (Ml : (Nat → Int32)) (My : (Nat → Int64)) (Oa : (Nat → Int64)) (Od : (Nat → UInt64)) : Option Int32 :=
  gd (isB (0 : Int32)) (some (0 : Int32))
def fL_law_J1812 (N : Nat) (L : Nat) (xs : Nat → Int32) (Tn : Int32) (Ta : (Nat → Int32)) (Fn : Int32) (Fa : (Nat → Int32)) (Ba : (Nat → Int32)) (Rn : Int32) (Ra : (Nat → Int32)) (Rb : (Nat → Int32)) (Rd : (Nat → Int32)) (Ua : (Nat → Int32)) (Wg : Int32) (Wz : Int32) (Ww : Int32) (Wr : Int32) (Mh : Int32) (Mn : Int32) (Mm : Int32) (Mt : (Nat → Int32)) (Mk : (Nat → Int32)) (Ms : (Nat → Int32)) (Me : (Nat → Int32)) (Mp : (Nat → Int32)) (Mw : (Nat → Int32)) (Ml : (Nat → Int32)) (My : (Nat → Int64)) (Oa : (Nat → Int64)) (Od : (Nat → UInt64)) : Option Int32 :=
  gd (isB (0 : Int32)) (some (0 : Int32))
def fL_law_J2837 (N : Nat) (L : Nat) (xs : Nat → Int32) (Tn : Int32) (Ta : (Nat → Int32)) (Fn : Int32) (Fa : (Nat → Int32)) (Ba : (Nat → Int32)) (Rn : Int32) (Ra : (Nat → Int32)) (Rb : (Nat → Int32)) (Rd : (Nat → Int32)) (Ua : (Nat → Int32)) (Wg : Int32) (Wz : Int32) (Ww : Int32) (Wr : Int32) (Mh : Int32) (Mn : Int32) (Mm : Int32) (Mt : (Nat → Int32)) (Mk : (Nat → Int32)) (Ms : (Nat → Int32)) (Me : (Nat → Int32)) (Mp : (Nat → Int32)) (Mw : (Nat → Int32)) (Ml : (Nat → Int32)) (My : (Nat → Int64)) (Oa : (Nat → Int64)) (Od : (Nat → UInt64)) : Option Int32 :=
  gd (isB (1 : Int32)) (some (1 : Int32))
def fL_law_J793 (N : Nat) (L : Nat) (xs : Nat → Int32) (Tn : Int32) (Ta : (Nat → Int32)) (Fn : Int32) (Fa : (Nat → Int32)) (Ba : (Nat → Int32)) (Rn : Int32) (Ra : (Nat → Int32)) (Rb : (Nat → Int32)) (Rd : (Nat → Int32)) (Ua : (Nat → Int32)) (Wg : Int32) (Wz : Int32) (Ww : Int32) (Wr : Int32) (Mh : Int32) (Mn : Int32) (Mm : Int32) (Mt : (Nat → Int32)) (Mk : (Nat → Int32)) (Ms : (Nat → Int32)) (Me : (Nat → Int32)) (Mp : (Nat → Int32)) (Mw : (Nat → Int32)) (Ml : (Nat → Int32)) (My : (Nat → Int64)) (Oa : (Nat → Int64)) (Od : (Nat → UInt64)) : Option Int32 :=
  gd (isB (0 : Int32)) (some (0 : Int32))
def fL_law_J2334 (N : Nat) (L : Nat) (xs : Nat → Int32) (Tn : Int32) (Ta : (Nat → Int32)) (Fn : Int32) (Fa : (Nat → Int32)) (Ba : (Nat → Int32)) (Rn : Int32) (Ra : (Nat → Int32)) (Rb : (Nat → Int32)) (Rd : (Nat → Int32)) (Ua : (Nat → Int32)) (Wg : Int32) (Wz : Int32) (Ww : Int32) (Wr : Int32) (Mh : Int32) (Mn : Int32) (Mm : Int32) (Mt : (Nat → Int32)) (Mk : (Nat → Int32)) (Ms : (Nat → Int32)) (Me : (Nat → Int32)) (Mp : (Nat → Int32)) (Mw : (Nat → Int32)) (Ml : (Nat → Int32)) (My : (Nat → Int64)) (Oa : (Nat → Int64)) (Od : (Nat → UInt64)) : Option Int32 :=
  gd (isB (0 : Int32)) (some (0 : Int32))
def fL_law_J287 (N : Nat) (L : Nat) (xs : Nat → Int32) (Tn : Int32) (Ta : (Nat → Int32)) (Fn : Int32) (Fa : (Nat → Int32)) (Ba : (Nat → Int32)) (Rn : Int32) (Ra : (Nat → Int32)) (Rb : (Nat → Int32)) (Rd : (Nat → Int32)) (Ua : (Nat → Int32)) (Wg : Int32) (Wz : Int32) (Ww : Int32) (Wr : Int32) (Mh : Int32) (Mn : Int32) (Mm : Int32) (Mt : (Nat → Int32)) (Mk : (Nat → Int32)) (Ms : (Nat → Int32)) (Me : (Nat → Int32)) (Mp : (Nat → Int32)) (Mw : (Nat → Int32)) (Ml : (Nat → Int32)) (My : (Nat → Int64)) (Oa : (Nat → Int64)) (Od : (Nat → UInt64)) : Option Int32 :=
  gd (isB (0 : Int32)) (some (0 : Int32))
def fL_law_J1829 (N : Nat) (L : Nat) (xs : Nat → Int32) (Tn : Int32) (Ta : (Nat → Int32)) (Fn : Int32) (Fa : (Nat → Int32)) (Ba : (Nat → Int32)) (Rn : Int32) (Ra : (Nat → Int32)) (Rb : (Nat → Int32)) (Rd : (Nat → Int32)) (Ua : (Nat → Int32)) (Wg : Int32) (Wz : Int32) (Ww : Int32) (Wr : Int32) (Mh : Int32) (Mn : Int32) (Mm : Int32) (Mt : (Nat → Int32)) (Mk : (Nat → Int32)) (Ms : (Nat → Int32)) (Me : (Nat → Int32)) (Mp : (Nat → Int32)) (Mw : (Nat → Int32)) (Ml : (Nat → Int32)) (My : (Nat → Int64)) (Oa : (Nat → Int64)) (Od : (Nat → UInt64)) : Option Int32 :=
  gd (isB (0 : Int32)) (some (0 : Int32))
def fL_law_J1329 (N : Nat) (L : Nat) (xs : Nat → Int32) (Tn : Int32) (Ta : (Nat → Int32)) (Fn : Int32) (Fa : (Nat → Int32)) (Ba : (Nat → Int32)) (Rn : Int32) (Ra : (Nat → Int32)) (Rb : (Nat → Int32)) (Rd : (Nat → Int32)) (Ua : (Nat → Int32)) (Wg : Int32) (Wz : Int32) (Ww : Int32) (Wr : Int32) (Mh : Int32) (Mn : Int32) (Mm : Int32) (Mt : (Nat → Int32)) (Mk : (Nat → Int32)) (Ms : (Nat → Int32)) (Me : (Nat → Int32)) (Mp : (Nat → Int32)) (Mw : (Nat → Int32)) (Ml : (Nat → Int32)) (My : (Nat → Int64)) (Oa : (Nat → Int64)) (Od : (Nat → UInt64)) : Option Int32 :=
  gd (isB (0 : Int32)) (some (0 : Int32))
def fL_law_J829 (N : Nat) (L : Nat) (xs : Nat → Int32) (Tn : Int32) (Ta : (Nat → Int32)) (Fn : Int32) (Fa : (Nat → Int32)) (Ba : (Nat → Int32)) (Rn : Int32) (Ra : (Nat → Int32)) (Rb : (Nat → Int32)) (Rd : (Nat → Int32)) (Ua : (Nat → Int32)) (Wg : Int32) (Wz : Int32) (Ww : Int32) (Wr : Int32) (Mh : Int32) (Mn : Int32) (Mm : Int32) (Mt : (Nat → Int32)) (Mk : (Nat → Int32)) (Ms : (Nat → Int32)) (Me : (Nat → Int32)) (Mp : (Nat → Int32)) (Mw : (Nat → Int32)) (Ml : (Nat → Int32)) (My : (Nat → Int64)) (Oa : (Nat → Int64)) (Od : (Nat → UInt64)) : Option Int32 :=
  gd (isB (0 : Int32)) (some (0 : Int32))
def fL_law_J1346 (N : Nat) (L : Nat) (xs : Nat → Int32) (Tn : Int32) (Ta : (Nat → Int32)) (Fn : Int32) (Fa : (Nat → Int32)) (Ba : (Nat → Int32)) (Rn : Int32) (Ra : (Nat → Int32)) (Rb : (Nat → Int32)) (Rd : (Nat → Int32)) (Ua : (Nat → Int32)) (Wg : Int32) (Wz : Int32) (Ww : Int32) (Wr : Int32) (Mh : Int32) (Mn : Int32) (Mm : Int32) (Mt : (Nat → Int32)) (Mk : (Nat → Int32)) (Ms : (Nat → Int32)) (Me : (Nat → Int32)) (Mp : (Nat → Int32)) (Mw : (Nat → Int32)) (Ml : (Nat → Int32)) (My : (Nat → Int64)) (Oa : (Nat → Int64)) (Od : (Nat → UInt64)) : Option Int32 :=
  gd (isB (0 : Int32)) (some (0 : Int32))
def fL_law_J2373 (N : Nat) (L : Nat) (xs : Nat → Int32) (Tn : Int32) (Ta : (Nat → Int32)) (Fn : Int32) (Fa : (Nat → Int32)) (Ba : (Nat → Int32)) (Rn : Int32) (Ra : (Nat → Int32)) (Rb : (Nat → Int32)) (Rd : (Nat → Int32)) (Ua : (Nat → Int32)) (Wg : Int32) (Wz : Int32) (Ww : Int32) (Wr : Int32) (Mh : Int32) (Mn : Int32) (Mm : Int32) (Mt : (Nat → Int32)) (Mk : (Nat → Int32)) (Ms : (Nat → Int32)) (Me : (Nat → Int32)) (Mp : (Nat → Int32)) (Mw : (Nat → Int32)) (Ml : (Nat → Int32)) (My : (Nat → Int64)) (Oa : (Nat → Int64)) (Od : (Nat → UInt64)) : Option Int32 :=
  gd (isB (0 : Int32)) (some (0 : Int32))
def fL_law_J846 (N : Nat) (L : Nat) (xs : Nat → Int32) (Tn : Int32) (Ta : (Nat → Int32)) (Fn : Int32) (Fa : (Nat → Int32)) (Ba : (Nat → Int32)) (Rn : Int32) (Ra : (Nat → Int32)) (Rb : (Nat → Int32)) (Rd : (Nat → Int32)) (Ua : (Nat → Int32)) (Wg : Int32) (Wz : Int32) (Ww : Int32) (Wr : Int32) (Mh : Int32) (Mn : Int32) (Mm : Int32) (Mt : (Nat → Int32)) (Mk : (Nat → Int32)) (Ms : (Nat → Int32)) (Me : (Nat → Int32)) (Mp : (Nat → Int32)) (Mw : (Nat → Int32)) (Ml : (Nat → Int32)) (My : (Nat → Int64)) (Oa : (Nat → Int64)) (Od : (Nat → UInt64)) : Option Int32 :=
  gd (isB (0 : Int32)) (some (0 : Int32))
def fL_law_J338 (N : Nat) (L : Nat) (xs : Nat → Int32) (Tn : Int32) (Ta : (Nat → Int32)) (Fn : Int32) (Fa : (Nat → Int32)) (Ba : (Nat → Int32)) (Rn : Int32) (Ra : (Nat → Int32)) (Rb : (Nat → Int32)) (Rd : (Nat → Int32)) (Ua : (Nat → Int32)) (Wg : Int32) (Wz : Int32) (Ww : Int32) (Wr : Int32) (Mh : Int32) (Mn : Int32) (Mm : Int32) (Mt : (Nat → Int32)) (Mk : (Nat → Int32)) (Ms : (Nat → Int32)) (Me : (Nat → Int32)) (Mp : (Nat → Int32)) (Mw : (Nat → Int32)) (Ml : (Nat → Int32)) (My : (Nat → Int64)) (Oa : (Nat → Int64)) (Od : (Nat → UInt64)) : Option Int32 :=
  gd (isB (0 : Int32)) (some (0 : Int32))
def fL_law_J2390 (N : Nat) (L : Nat) (xs : Nat → Int32) (Tn : Int32) (Ta : (Nat → Int32)) (Fn : Int32) (Fa : (Nat → Int32)) (Ba : (Nat → Int32)) (Rn : Int32) (Ra : (Nat → Int32)) (Rb : (Nat → Int32)) (Rd : (Nat → Int32)) (Ua : (Nat → Int32)) (Wg : Int32) (Wz : Int32) (Ww : Int32) (Wr : Int32) (Mh : Int32) (Mn : Int32) (Mm : Int32) (Mt : (Nat → Int32)) (Mk : (Nat → Int32)) (Ms : (Nat → Int32)) (Me : (Nat → Int32)) (Mp : (Nat → Int32)) (Mw : (Nat → Int32)) (Ml : (Nat → Int32)) (My : (Nat → Int64)) (Oa : (Nat → Int64)) (Od : (Nat → UInt64)) : Option Int32 :=
  gd (isB (0 : Int32)) (some (0 : Int32))
def fL_law_J355 (N : Nat) (L : Nat) (xs : Nat → Int32) (Tn : Int32) (Ta : (Nat → Int32)) (Fn : Int32) (Fa : (Nat → Int32)) (Ba : (Nat → Int32)) (Rn : Int32) (Ra : (Nat → Int32)) (Rb : (Nat → Int32)) (Rd : (Nat → Int32)) (Ua : (Nat → Int32)) (Wg : Int32) (Wz : Int32) (Ww : Int32) (Wr : Int32) (Mh : Int32) (Mn : Int32) (Mm : Int32) (Mt : (Nat → Int32)) (Mk : (Nat → Int32)) (Ms : (Nat → Int32)) (Me : (Nat → Int32)) (Mp : (Nat → Int32)) (Mw : (Nat → Int32)) (Ml : (Nat → Int32)) (My : (Nat → Int64)) (Oa : (Nat → Int64)) (Od : (Nat → UInt64)) : Option Int32 :=
  gd (isB (0 : Int32)) (some (0 : Int32))
def fL_law_J1892 (N : Nat) (L : Nat) (xs : Nat → Int32) (Tn : Int32) (Ta : (Nat → Int32)) (Fn : Int32) (Fa : (Nat → Int32)) (Ba : (Nat → Int32)) (Rn : Int32) (Ra : (Nat → Int32)) (Rb : (Nat → Int32)) (Rd : (Nat → Int32)) (Ua : (Nat → Int32)) (Wg : Int32) (Wz : Int32) (Ww : Int32) (Wr : Int32) (Mh : Int32) (Mn : Int32) (Mm : Int32) (Mt : (Nat → Int32)) (Mk : (Nat → Int32)) (Ms : (Nat → Int32)) (Me : (Nat → Int32)) (Mp : (Nat → Int32)) (Mw : (Nat → Int32)) (Ml : (Nat → Int32)) (My : (Nat → Int64)) (Oa : (Nat → Int64)) (Od : (Nat → UInt64)) : Option Int32 :=
  gd (isB (0 : Int32)) (some (0 : Int32))
def fL_law_J1397 (N : Nat) (L : Nat) (xs : Nat → Int32) (Tn : Int32) (Ta : (Nat → Int32)) (Fn : Int32) (Fa : (Nat → Int32)) (Ba : (Nat → Int32)) (Rn : Int32) (Ra : (Nat → Int32)) (Rb : (Nat → Int32)) (Rd : (Nat → Int32)) (Ua : (Nat → Int32)) (Wg : Int32) (Wz : Int32) (Ww : Int32) (Wr : Int32) (Mh : Int32) (Mn : Int32) (Mm : Int32) (Mt : (Nat → Int32)) (Mk : (Nat → Int32)) (Ms : (Nat → Int32)) (Me : (Nat → Int32)) (Mp : (Nat → Int32)) (Mw : (Nat → Int32)) (Ml : (Nat → Int32)) (My : (Nat → Int64)) (Oa : (Nat → Int64)) (Od : (Nat → UInt64)) : Option Int32 :=
  gd (isB (0 : Int32)) (some (0 : Int32))
def fL_law_J1916 (N : Nat) (L : Nat) (xs : Nat → Int32) (Tn : Int32) (Ta : (Nat → Int32)) (Fn : Int32) (Fa : (Nat → Int32)) (Ba : (Nat → Int32)) (Rn : Int32) (Ra : (Nat → Int32)) (Rb : (Nat → Int32)) (Rd : (Nat → Int32)) (Ua : (Nat → Int32)) (Wg : Int32) (Wz : Int32) (Ww : Int32) (Wr : Int32) (Mh : Int32) (Mn : Int32) (Mm : Int32) (Mt : (Nat → Int32)) (Mk : (Nat → Int32)) (Ms : (Nat → Int32)) (Me : (Nat → Int32)) (Mp : (Nat → Int32)) (Mw : (Nat → Int32)) (Ml : (Nat → Int32)) (My : (Nat → Int64)) (Oa : (Nat → Int64)) (Od : (Nat → UInt64)) : Option Int32 :=
  gd (isB (0 : Int32)) (some (0 : Int32))
def fL_law_J2429 (N : Nat) (L : Nat) (xs : Nat → Int32) (Tn : Int32) (Ta : (Nat → Int32)) (Fn : Int32) (Fa : (Nat → Int32)) (Ba : (Nat → Int32)) (Rn : Int32) (Ra : (Nat → Int32)) (Rb : (Nat → Int32)) (Rd : (Nat → Int32)) (Ua : (Nat → Int32)) (Wg : Int32) (Wz : Int32) (Ww : Int32) (Wr : Int32) (Mh : Int32) (Mn : Int32) (Mm : Int32) (Mt : (Nat → Int32)) (Mk : (Nat → Int32)) (Ms : (Nat → Int32)) (Me : (Nat → Int32)) (Mp : (Nat → Int32)) (Mw : (Nat → Int32)) (Ml : (Nat → Int32)) (My : (Nat → Int64)) (Oa : (Nat → Int64)) (Od : (Nat → UInt64)) : Option Int32 :=
  gd (isB (0 : Int32)) (some (0 : Int32))
def fL_law_J1414 (N : Nat) (L : Nat) (xs : Nat → Int32) (Tn : Int32) (Ta : (Nat → Int32)) (Fn : Int32) (Fa : (Nat → Int32)) (Ba : (Nat → Int32)) (Rn : Int32) (Ra : (Nat → Int32)) (Rb : (Nat → Int32)) (Rd : (Nat → Int32)) (Ua : (Nat → Int32)) (Wg : Int32) (Wz : Int32) (Ww : Int32) (Wr : Int32) (Mh : Int32) (Mn : Int32) (Mm : Int32) (Mt : (Nat → Int32)) (Mk : (Nat → Int32)) (Ms : (Nat → Int32)) (Me : (Nat → Int32)) (Mp : (Nat → Int32)) (Mw : (Nat → Int32)) (Ml : (Nat → Int32)) (My : (Nat → Int64)) (Oa : (Nat → Int64)) (Od : (Nat → UInt64)) : Option Int32 :=
  gd (isB (0 : Int32)) (some (0 : Int32))
def fL_law_J2446 (N : Nat) (L : Nat) (xs : Nat → Int32) (Tn : Int32) (Ta : (Nat → Int32)) (Fn : Int32) (Fa : (Nat → Int32)) (Ba : (Nat → Int32)) (Rn : Int32) (Ra : (Nat → Int32)) (Rb : (Nat → Int32)) (Rd : (Nat → Int32)) (Ua : (Nat → Int32)) (Wg : Int32) (Wz : Int32) (Ww : Int32) (Wr : Int32) (Mh : Int32) (Mn : Int32) (Mm : Int32) (Mt : (Nat → Int32)) (Mk : (Nat → Int32)) (Ms : (Nat → Int32)) (Me : (Nat → Int32)) (Mp : (Nat → Int32)) (Mw : (Nat → Int32)) (Ml : (Nat → Int32)) (My : (Nat → Int64)) (Oa : (Nat → Int64)) (Od : (Nat → UInt64)) : Option Int32 :=
  gd (isB (0 : Int32)) (some (0 : Int32))
def fL_law_J406 (N : Nat) (L : Nat) (xs : Nat → Int32) (Tn : Int32) (Ta : (Nat → Int32)) (Fn : Int32) (Fa : (Nat → Int32)) (Ba : (Nat → Int32)) (Rn : Int32) (Ra : (Nat → Int32)) (Rb : (Nat → Int32)) (Rd : (Nat → Int32)) (Ua : (Nat → Int32)) (Wg : Int32) (Wz : Int32) (Ww : Int32) (Wr : Int32) (Mh : Int32) (Mn : Int32) (Mm : Int32) (Mt : (Nat → Int32)) (Mk : (Nat → Int32)) (Ms : (Nat → Int32)) (Me : (Nat → Int32)) (Mp : (Nat → Int32)) (Mw : (Nat → Int32)) (Ml : (Nat → Int32)) (My : (Nat → Int64)) (Oa : (Nat → Int64)) (Od : (Nat → UInt64)) : Option Int32 :=
  gd (isB (0 : Int32)) (some (0 : Int32))
def fL_law_J921 (N : Nat) (L : Nat) (xs : Nat → Int32) (Tn : Int32) (Ta : (Nat → Int32)) (Fn : Int32) (Fa : (Nat → Int32)) (Ba : (Nat → Int32)) (Rn : Int32) (Ra : (Nat → Int32)) (Rb : (Nat → Int32)) (Rd : (Nat → Int32)) (Ua : (Nat → Int32)) (Wg : Int32) (Wz : Int32) (Ww : Int32) (Wr : Int32) (Mh : Int32) (Mn : Int32) (Mm : Int32) (Mt : (Nat → Int32)) (Mk : (Nat → Int32)) (Ms : (Nat → Int32)) (Me : (Nat → Int32)) (Mp : (Nat → Int32)) (Mw : (Nat → Int32)) (Ml : (Nat → Int32)) (My : (Nat → Int64)) (Oa : (Nat → Int64)) (Od : (Nat → UInt64)) : Option Int32 :=
  gd (isB (0 : Int32)) (some (0 : Int32))
def fL_law_J423 (N : Nat) (L : Nat) (xs : Nat → Int32) (Tn : Int32) (Ta : (Nat → Int32)) (Fn : Int32) (Fa : (Nat → Int32)) (Ba : (Nat → Int32)) (Rn : Int32) (Ra : (Nat → Int32)) (Rb : (Nat → Int32)) (Rd : (Nat → Int32)) (Ua : (Nat → Int32)) (Wg : Int32) (Wz : Int32) (Ww : Int32) (Wr : Int32) (Mh : Int32) (Mn : Int32) (Mm : Int32) (Mt : (Nat → Int32)) (Mk : (Nat → Int32)) (Ms : (Nat → Int32)) (Me : (Nat → Int32)) (Mp : (Nat → Int32)) (Mw : (Nat → Int32)) (Ml : (Nat → Int32)) (My : (Nat → Int64)) (Oa : (Nat → Int64)) (Od : (Nat → UInt64)) : Option Int32 :=
  gd (isB (0 : Int32)) (some (0 : Int32))
def fL_law_J938 (N : Nat) (L : Nat) (xs : Nat → Int32) (Tn : Int32) (Ta : (Nat → Int32)) (Fn : Int32) (Fa : (Nat → Int32)) (Ba : (Nat → Int32)) (Rn : Int32) (Ra : (Nat → Int32)) (Rb : (Nat → Int32)) (Rd : (Nat → Int32)) (Ua : (Nat → Int32)) (Wg : Int32) (Wz : Int32) (Ww : Int32) (Wr : Int32) (Mh : Int32) (Mn : Int32) (Mm : Int32) (Mt : (Nat → Int32)) (Mk : (Nat → Int32)) (Ms : (Nat → Int32)) (Me : (Nat → Int32)) (Mp : (Nat → Int32)) (Mw : (Nat → Int32)) (Ml : (Nat → Int32)) (My : (Nat → Int64)) (Oa : (Nat → Int64)) (Od : (Nat → UInt64)) : Option Int32 :=
  gd (isB (0 : Int32)) (some (0 : Int32))
def fL_law_J1967 (N : Nat) (L : Nat) (xs : Nat → Int32) (Tn : Int32) (Ta : (Nat → Int32)) (Fn : Int32) (Fa : (Nat → Int32)) (Ba : (Nat → Int32)) (Rn : Int32) (Ra : (Nat → Int32)) (Rb : (Nat → Int32)) (Rd : (Nat → Int32)) (Ua : (Nat → Int32)) (Wg : Int32) (Wz : Int32) (Ww : Int32) (Wr : Int32) (Mh : Int32) (Mn : Int32) (Mm : Int32) (Mt : (Nat → Int32)) (Mk : (Nat → Int32)) (Ms : (Nat → Int32)) (Me : (Nat → Int32)) (Mp : (Nat → Int32)) (Mw : (Nat → Int32)) (Ml : (Nat → Int32)) (My : (Nat → Int64)) (Oa : (Nat → Int64)) (Od : (Nat → UInt64)) : Option Int32 :=
  gd (isB (0 : Int32)) (some (0 : Int32))
def fL_law_J2487 (N : Nat) (L : Nat) (xs : Nat → Int32) (Tn : Int32) (Ta : (Nat → Int32)) (Fn : Int32) (Fa : (Nat → Int32)) (Ba : (Nat → Int32)) (Rn : Int32) (Ra : (Nat → Int32)) (Rb : (Nat → Int32)) (Rd : (Nat → Int32)) (Ua : (Nat → Int32)) (Wg : Int32) (Wz : Int32) (Ww : Int32) (Wr : Int32) (Mh : Int32) (Mn : Int32) (Mm : Int32) (Mt : (Nat → Int32)) (Mk : (Nat → Int32)) (Ms : (Nat → Int32)) (Me : (Nat → Int32)) (Mp : (Nat → Int32)) (Mw : (Nat → Int32)) (Ml : (Nat → Int32)) (My : (Nat → Int64)) (Oa : (Nat → Int64)) (Od : (Nat → UInt64)) : Option Int32 :=
  gd (isB (0 : Int32)) (some (0 : Int32))
def fL_law_J1465 (N : Nat) (L : Nat) (xs : Nat → Int32) (Tn : Int32) (Ta : (Nat → Int32)) (Fn : Int32) (Fa : (Nat → Int32)) (Ba : (Nat → Int32)) (Rn : Int32) (Ra : (Nat → Int32)) (Rb : (Nat → Int32)) (Rd : (Nat → Int32)) (Ua : (Nat → Int32)) (Wg : Int32) (Wz : Int32) (Ww : Int32) (Wr : Int32) (Mh : Int32) (Mn : Int32) (Mm : Int32) (Mt : (Nat → Int32)) (Mk : (Nat → Int32)) (Ms : (Nat → Int32)) (Me : (Nat → Int32)) (Mp : (Nat → Int32)) (Mw : (Nat → Int32)) (Ml : (Nat → Int32)) (My : (Nat → Int64)) (Oa : (Nat → Int64)) (Od : (Nat → UInt64)) : Option Int32 :=
  gd (isB (0 : Int32)) (some (0 : Int32))
def fL_law_J1984 (N : Nat) (L : Nat) (xs : Nat → Int32) (Tn : Int32) (Ta : (Nat → Int32)) (Fn : Int32) (Fa : (Nat → Int32)) (Ba : (Nat → Int32)) (Rn : Int32) (Ra : (Nat → Int32)) (Rb : (Nat → Int32)) (Rd : (Nat → Int32)) (Ua : (Nat → Int32)) (Wg : Int32) (Wz : Int32) (Ww : Int32) (Wr : Int32) (Mh : Int32) (Mn : Int32) (Mm : Int32) (Mt : (Nat → Int32)) (Mk : (Nat → Int32)) (Ms : (Nat → Int32)) (Me : (Nat → Int32)) (Mp : (Nat → Int32)) (Mw : (Nat → Int32)) (Ml : (Nat → Int32)) (My : (Nat → Int64)) (Oa : (Nat → Int64)) (Od : (Nat → UInt64)) : Option Int32 :=
  gd (isB (0 : Int32)) (some (0 : Int32))
def fL_law_J2503 (N : Nat) (L : Nat) (xs : Nat → Int32) (Tn : Int32) (Ta : (Nat → Int32)) (Fn : Int32) (Fa : (Nat → Int32)) (Ba : (Nat → Int32)) (Rn : Int32) (Ra : (Nat → Int32)) (Rb : (Nat → Int32)) (Rd : (Nat → Int32)) (Ua : (Nat → Int32)) (Wg : Int32) (Wz : Int32) (Ww : Int32) (Wr : Int32) (Mh : Int32) (Mn : Int32) (Mm : Int32) (Mt : (Nat → Int32)) (Mk : (Nat → Int32)) (Ms : (Nat → Int32)) (Me : (Nat → Int32)) (Mp : (Nat → Int32)) (Mw : (Nat → Int32)) (Ml : (Nat → Int32)) (My : (Nat → Int64)) (Oa : (Nat → Int64)) (Od : (Nat → UInt64)) : Option Int32 :=
  gd (isB (0 : Int32)) (some (0 : Int32))
def fL_law_J1482 (N : Nat) (L : Nat) (xs : Nat → Int32) (Tn : Int32) (Ta : (Nat → Int32)) (Fn : Int32) (Fa : (Nat → Int32)) (Ba : (Nat → Int32)) (Rn : Int32) (Ra : (Nat → Int32)) (Rb : (Nat → Int32)) (Rd : (Nat → Int32)) (Ua : (Nat → Int32)) (Wg : Int32) (Wz : Int32) (Ww : Int32) (Wr : Int32) (Mh : Int32) (Mn : Int32) (Mm : Int32) (Mt : (Nat → Int32)) (Mk : (Nat → Int32)) (Ms : (Nat → Int32)) (Me : (Nat → Int32)) (Mp : (Nat → Int32)) (Mw : (Nat → Int32)) (Ml : (Nat → Int32)) (My : (Nat → Int64)) (Oa : (Nat → Int64)) (Od : (Nat → UInt64)) : Option Int32 :=
  gd (isB (0 : Int32)) (some (0 : Int32))
def fL_law_J462 (N : Nat) (L : Nat) (xs : Nat → Int32) (Tn : Int32) (Ta : (Nat → Int32)) (Fn : Int32) (Fa : (Nat → Int32)) (Ba : (Nat → Int32)) (Rn : Int32) (Ra : (Nat → Int32)) (Rb : (Nat → Int32)) (Rd : (Nat → Int32)) (Ua : (Nat → Int32)) (Wg : Int32) (Wz : Int32) (Ww : Int32) (Wr : Int32) (Mh : Int32) (Mn : Int32) (Mm : Int32) (Mt : (Nat → Int32)) (Mk : (Nat → Int32)) (Ms : (Nat → Int32)) (Me : (Nat → Int32)) (Mp : (Nat → Int32)) (Mw : (Nat → Int32)) (Ml : (Nat → Int32)) (My : (Nat → Int64)) (Oa : (Nat → Int64)) (Od : (Nat → UInt64)) : Option Int32 :=
  gd (isB (0 : Int32)) (some (0 : Int32))
def fL_law_J989 (N : Nat) (L : Nat) (xs : Nat → Int32) (Tn : Int32) (Ta : (Nat → Int32)) (Fn : Int32) (Fa : (Nat → Int32)) (Ba : (Nat → Int32)) (Rn : Int32) (Ra : (Nat → Int32)) (Rb : (Nat → Int32)) (Rd : (Nat → Int32)) (Ua : (Nat → Int32)) (Wg : Int32) (Wz : Int32) (Ww : Int32) (Wr : Int32) (Mh : Int32) (Mn : Int32) (Mm : Int32) (Mt : (Nat → Int32)) (Mk : (Nat → Int32)) (Ms : (Nat → Int32)) (Me : (Nat → Int32)) (Mp : (Nat → Int32)) (Mw : (Nat → Int32)) (Ml : (Nat → Int32)) (My : (Nat → Int64)) (Oa : (Nat → Int64)) (Od : (Nat → UInt64)) : Option Int32 :=
  gd (isB (0 : Int32)) (some (0 : Int32))
def fL_law_J479 (N : Nat) (L : Nat) (xs : Nat → Int32) (Tn : Int32) (Ta : (Nat → Int32)) (Fn : Int32) (Fa : (Nat → Int32)) (Ba : (Nat → Int32)) (Rn : Int32) (Ra : (Nat → Int32)) (Rb : (Nat → Int32)) (Rd : (Nat → Int32)) (Ua : (Nat → Int32)) (Wg : Int32) (Wz : Int32) (Ww : Int32) (Wr : Int32) (Mh : Int32) (Mn : Int32) (Mm : Int32) (Mt : (Nat → Int32)) (Mk : (Nat → Int32)) (Ms : (Nat → Int32)) (Me : (Nat → Int32)) (Mp : (Nat → Int32)) (Mw : (Nat → Int32)) (Ml : (Nat → Int32)) (My : (Nat → Int64)) (Oa : (Nat → Int64)) (Od : (Nat → UInt64)) : Option Int32 :=
  gd (isB (0 : Int32)) (some (0 : Int32))
def fL_law_J2539 (N : Nat) (L : Nat) (xs : Nat → Int32) (Tn : Int32) (Ta : (Nat → Int32)) (Fn : Int32) (Fa : (Nat → Int32)) (Ba : (Nat → Int32)) (Rn : Int32) (Ra : (Nat → Int32)) (Rb : (Nat → Int32)) (Rd : (Nat → Int32)) (Ua : (Nat → Int32)) (Wg : Int32) (Wz : Int32) (Ww : Int32) (Wr : Int32) (Mh : Int32) (Mn : Int32) (Mm : Int32) (Mt : (Nat → Int32)) (Mk : (Nat → Int32)) (Ms : (Nat → Int32)) (Me : (Nat → Int32)) (Mp : (Nat → Int32)) (Mw : (Nat → Int32)) (Ml : (Nat → Int32)) (My : (Nat → Int64)) (Oa : (Nat → Int64)) (Od : (Nat → UInt64)) : Option Int32 :=
  gd (isB (0 : Int32)) (some (0 : Int32))
def fL_law_J1006 (N : Nat) (L : Nat) (xs : Nat → Int32) (Tn : Int32) (Ta : (Nat → Int32)) (Fn : Int32) (Fa : (Nat → Int32)) (Ba : (Nat → Int32)) (Rn : Int32) (Ra : (Nat → Int32)) (Rb : (Nat → Int32)) (Rd : (Nat → Int32)) (Ua : (Nat → Int32)) (Wg : Int32) (Wz : Int32) (Ww : Int32) (Wr : Int32) (Mh : Int32) (Mn : Int32) (Mm : Int32) (Mt : (Nat → Int32)) (Mk : (Nat → Int32)) (Ms : (Nat → Int32)) (Me : (Nat → Int32)) (Mp : (Nat → Int32)) (Mw : (Nat → Int32)) (Ml : (Nat → Int32)) (My : (Nat → Int64)) (Oa : (Nat → Int64)) (Od : (Nat → UInt64)) : Option Int32 :=
  gd (isB (0 : Int32)) (some (0 : Int32))
def fL_law_J495 (N : Nat) (L : Nat) (xs : Nat → Int32) (Tn : Int32) (Ta : (Nat → Int32)) (Fn : Int32) (Fa : (Nat → Int32)) (Ba : (Nat → Int32)) (Rn : Int32) (Ra : (Nat → Int32)) (Rb : (Nat → Int32)) (Rd : (Nat → Int32)) (Ua : (Nat → Int32)) (Wg : Int32) (Wz : Int32) (Ww : Int32) (Wr : Int32) (Mh : Int32) (Mn : Int32) (Mm : Int32) (Mt : (Nat → Int32)) (Mk : (Nat → Int32)) (Ms : (Nat → Int32)) (Me : (Nat → Int32)) (Mp : (Nat → Int32)) (Mw : (Nat → Int32)) (Ml : (Nat → Int32)) (My : (Nat → Int64)) (Oa : (Nat → Int64)) (Od : (Nat → UInt64)) : Option Int32 :=
  gd (isB (0 : Int32)) (some (0 : Int32))
def fL_law_J2035 (N : Nat) (L : Nat) (xs : Nat → Int32) (Tn : Int32) (Ta : (Nat → Int32)) (Fn : Int32) (Fa : (Nat → Int32)) (Ba : (Nat → Int32)) (Rn : Int32) (Ra : (Nat → Int32)) (Rb : (Nat → Int32)) (Rd : (Nat → Int32)) (Ua : (Nat → Int32)) (Wg : Int32) (Wz : Int32) (Ww : Int32) (Wr : Int32) (Mh : Int32) (Mn : Int32) (Mm : Int32) (Mt : (Nat → Int32)) (Mk : (Nat → Int32)) (Ms : (Nat → Int32)) (Me : (Nat → Int32)) (Mp : (Nat → Int32)) (Mw : (Nat → Int32)) (Ml : (Nat → Int32)) (My : (Nat → Int64)) (Oa : (Nat → Int64)) (Od : (Nat → UInt64)) : Option Int32 :=
  gd (isB (0 : Int32)) (some (0 : Int32))
def fL_law_J508 (N : Nat) (L : Nat) (xs : Nat → Int32) (Tn : Int32) (Ta : (Nat → Int32)) (Fn : Int32) (Fa : (Nat → Int32)) (Ba : (Nat → Int32)) (Rn : Int32) (Ra : (Nat → Int32)) (Rb : (Nat → Int32)) (Rd : (Nat → Int32)) (Ua : (Nat → Int32)) (Wg : Int32) (Wz : Int32) (Ww : Int32) (Wr : Int32) (Mh : Int32) (Mn : Int32) (Mm : Int32) (Mt : (Nat → Int32)) (Mk : (Nat → Int32)) (Ms : (Nat → Int32)) (Me : (Nat → Int32)) (Mp : (Nat → Int32)) (Mw : (Nat → Int32)) (Ml : (Nat → Int32)) (My : (Nat → Int64)) (Oa : (Nat → Int64)) (Od : (Nat → UInt64)) : Option Int32 :=
  gd (isB (0 : Int32)) (some (0 : Int32))
def fL_law_J1533 (N : Nat) (L : Nat) (xs : Nat → Int32) (Tn : Int32) (Ta : (Nat → Int32)) (Fn : Int32) (Fa : (Nat → Int32)) (Ba : (Nat → Int32)) (Rn : Int32) (Ra : (Nat → Int32)) (Rb : (Nat → Int32)) (Rd : (Nat → Int32)) (Ua : (Nat → Int32)) (Wg : Int32) (Wz : Int32) (Ww : Int32) (Wr : Int32) (Mh : Int32) (Mn : Int32) (Mm : Int32) (Mt : (Nat → Int32)) (Mk : (Nat → Int32)) (Ms : (Nat → Int32)) (Me : (Nat → Int32)) (Mp : (Nat → Int32)) (Mw : (Nat → Int32)) (Ml : (Nat → Int32)) (My : (Nat → Int64)) (Oa : (Nat → Int64)) (Od : (Nat → UInt64)) : Option Int32 :=
  gd (isB (0 : Int32)) (some (0 : Int32))
def fL_law_J2831 (N : Nat) (L : Nat) (xs : Nat → Int32) (k28 : Int32 → (Nat → Int32) → Int32 → (Nat → Int32) → (Nat → Int32) → Int32 → (Nat → Int32) → (Nat → Int32) → (Nat → Int32) → (Nat → Int32) → Int32 → Int32 → Int32 → Int32 → Int32 → Int32 → Int32 → (Nat → Int32) → (Nat → Int32) → (Nat → Int32) → (Nat → Int32) → (Nat → Int32) → (Nat → Int32) → (Nat → Int32) → (Nat → Int64) → (Nat → Int64) → (Nat → UInt64) → Int32 → Option Int32) (Tn : Int32) (Ta : (Nat → Int32)) (Fn : Int32) (Fa : (Nat → Int32)) (Ba : (Nat → Int32)) (Rn : Int32) (Ra : (Nat → Int32)) (Rb : (Nat → Int32)) (Rd : (Nat → Int32)) (Ua : (Nat → Int32)) (Wg : Int32) (Wz : Int32) (Ww : Int32) (Wr : Int32) (Mh : Int32) (Mn : Int32) (Mm : Int32) (Mt : (Nat → Int32)) (Mk : (Nat → Int32)) (Ms : (Nat → Int32)) (Me : (Nat → Int32)) (Mp : (Nat → Int32)) (Mw : (Nat → Int32)) (Ml : (Nat → Int32)) (My : (Nat → Int64)) (Oa : (Nat → Int64)) (Od : (Nat → UInt64)) (x5 : Int32) : Option Int32 :=
  k28 Tn Ta Fn Fa Ba Rn Ra Rb Rd Ua Wg Wz Ww Wr Mh Mn Mm Mt Mk Ms Me Mp Mw Ml My Oa Od (x5 + 5)
def fL_law_J289 (N : Nat) (L : Nat) (xs : Nat → Int32) (k28 : Int32 → (Nat → Int32) → Int32 → (Nat → Int32) → (Nat → Int32) → Int32 → (Nat → Int32) → (Nat → Int32) → (Nat → Int32) → (Nat → Int32) → Int32 → Int32 → Int32 → Int32 → Int32 → Int32 → Int32 → (Nat → Int32) → (Nat → Int32) → (Nat → Int32) → (Nat → Int32) → (Nat → Int32) → (Nat → Int32) → (Nat → Int32) → (Nat → Int64) → (Nat → Int64) → (Nat → UInt64) → Int32 → Option Int32) (Tn : Int32) (Ta : (Nat → Int32)) (Fn : Int32) (Fa : (Nat → Int32)) (Ba : (Nat → Int32)) (Rn : Int32) (Ra : (Nat → Int32)) (Rb : (Nat → Int32)) (Rd : (Nat → Int32)) (Ua : (Nat → Int32)) (Wg : Int32) (Wz : Int32) (Ww : Int32) (Wr : Int32) (Mh : Int32) (Mn : Int32) (Mm : Int32) (Mt : (Nat → Int32)) (Mk : (Nat → Int32)) (Ms : (Nat → Int32)) (Me : (Nat → Int32)) (Mp : (Nat → Int32)) (Mw : (Nat → Int32)) (Ml : (Nat → Int32)) (My : (Nat → Int64)) (Oa : (Nat → Int64)) (Od : (Nat → UInt64)) (x5 : Int32) : Option Int32 :=
  fL_law_J2831 N L xs k28 Tn Ta Fn Fa Ba Rn Ra Rb Rd Ua Wg Wz Ww Wr Mh Mn Mm Mt Mk Ms Me Mp Mw Ml My Oa Od x5
def fL_law_J236 (N : Nat) (L : Nat) (xs : Nat → Int32) (k28 : Int32 → (Nat → Int32) → Int32 → (Nat → Int32) → (Nat → Int32) → Int32 → (Nat → Int32) → (Nat → Int32) → (Nat → Int32) → (Nat → Int32) → Int32 → Int32 → Int32 → Int32 → Int32 → Int32 → Int32 → (Nat → Int32) → (Nat → Int32) → (Nat → Int32) → (Nat → Int32) → (Nat → Int32) → (Nat → Int32) → (Nat → Int32) → (Nat → Int64) → (Nat → Int64) → (Nat → UInt64) → Int32 → Option Int32) (Tn : Int32) (Ta : (Nat → Int32)) (Fn : Int32) (Fa : (Nat → Int32)) (Ba : (Nat → Int32)) (Rn : Int32) (Ra : (Nat → Int32)) (Rb : (Nat → Int32)) (Rd : (Nat → Int32)) (Ua : (Nat → Int32)) (Wg : Int32) (Wz : Int32) (Ww : Int32) (Wr : Int32) (Mh : Int32) (Mn : Int32) (Mm : Int32) (Mt : (Nat → Int32)) (Mk : (Nat → Int32)) (Ms : (Nat → Int32)) (Me : (Nat → Int32)) (Mp : (Nat → Int32)) (Mw : (Nat → Int32)) (Ml : (Nat → Int32)) (My : (Nat → Int64)) (Oa : (Nat → Int64)) (Od : (Nat → UInt64)) (x5 : Int32) : Option Int32 :=
  gd (inb (x5 + (1 : Int32)) L) (
    bn (fL_append N Tn Ta Oa (xs ((x5 + (1 : Int32))).toNatClampNeg)) (fun v244 =>
      gd (inb (x5 + (1 : Int32)) L) (
        bn (fX9_append N Mh Mn Mm Mt (xs ((x5 + (1 : Int32))).toNatClampNeg)) (fun v256 =>
          bn (fX9_thrown N v256.2.1 v256.2.2.1 Mm) (fun v262 =>
            if v262 = v244.1 then
              if v244.1 = 0 then
                gd (inb (0 : Int32) 1) (
                  if (lg_cmp (v244.2.2.2 ((0 : Int32)).toNatClampNeg) ((v256.1).toInt64)) = 0 then
                    fL_law_J289 N L xs k28 v244.2.1 v244.2.2.1 Fn Fa Ba Rn Ra Rb Rd Ua Wg Wz Ww Wr v256.2.1 v256.2.2.1 Mm v256.2.2.2 Mk Ms Me Mp Mw Ml My v244.2.2.2 Od x5
                  else
                    fL_law_J287 N L xs v244.2.1 v244.2.2.1 Fn Fa Ba Rn Ra Rb Rd Ua Wg Wz Ww Wr v256.2.1 v256.2.2.1 Mm v256.2.2.2 Mk Ms Me Mp Mw Ml My v244.2.2.2 Od)
              else
                fL_law_J289 N L xs k28 v244.2.1 v244.2.2.1 Fn Fa Ba Rn Ra Rb Rd Ua Wg Wz Ww Wr v256.2.1 v256.2.2.1 Mm v256.2.2.2 Mk Ms Me Mp Mw Ml My v244.2.2.2 Od x5
            else
              fL_law_J270 N L xs v244.2.1 v244.2.2.1 Fn Fa Ba Rn Ra Rb Rd Ua Wg Wz Ww Wr v256.2.1 v256.2.2.1 Mm v256.2.2.2 Mk Ms Me Mp Mw Ml My v244.2.2.2 Od)))))
def fL_law_J357 (N : Nat) (L : Nat) (xs : Nat → Int32) (k28 : Int32 → (Nat → Int32) → Int32 → (Nat → Int32) → (Nat → Int32) → Int32 → (Nat → Int32) → (Nat → Int32) → (Nat → Int32) → (Nat → Int32) → Int32 → Int32 → Int32 → Int32 → Int32 → Int32 → Int32 → (Nat → Int32) → (Nat → Int32) → (Nat → Int32) → (Nat → Int32) → (Nat → Int32) → (Nat → Int32) → (Nat → Int32) → (Nat → Int64) → (Nat → Int64) → (Nat → UInt64) → Int32 → Option Int32) (Tn : Int32) (Ta : (Nat → Int32)) (Fn : Int32) (Fa : (Nat → Int32)) (Ba : (Nat → Int32)) (Rn : Int32) (Ra : (Nat → Int32)) (Rb : (Nat → Int32)) (Rd : (Nat → Int32)) (Ua : (Nat → Int32)) (Wg : Int32) (Wz : Int32) (Ww : Int32) (Wr : Int32) (Mh : Int32) (Mn : Int32) (Mm : Int32) (Mt : (Nat → Int32)) (Mk : (Nat → Int32)) (Ms : (Nat → Int32)) (Me : (Nat → Int32)) (Mp : (Nat → Int32)) (Mw : (Nat → Int32)) (Ml : (Nat → Int32)) (My : (Nat → Int64)) (Oa : (Nat → Int64)) (Od : (Nat → UInt64)) (x5 : Int32) : Option Int32 :=
  fL_law_J2831 N L xs k28 Tn Ta Fn Fa Ba Rn Ra Rb Rd Ua Wg Wz Ww Wr Mh Mn Mm Mt Mk Ms Me Mp Mw Ml My Oa Od x5
def fL_law_J292 (N : Nat) (L : Nat) (xs : Nat → Int32) (k28 : Int32 → (Nat → Int32) → Int32 → (Nat → Int32) → (Nat → Int32) → Int32 → (Nat → Int32) → (Nat → Int32) → (Nat → Int32) → (Nat → Int32) → Int32 → Int32 → Int32 → Int32 → Int32 → Int32 → Int32 → (Nat → Int32) → (Nat → Int32) → (Nat → Int32) → (Nat → Int32) → (Nat → Int32) → (Nat → Int32) → (Nat → Int32) → (Nat → Int64) → (Nat → Int64) → (Nat → UInt64) → Int32 → Option Int32) (Tn : Int32) (Ta : (Nat → Int32)) (Fn : Int32) (Fa : (Nat → Int32)) (Ba : (Nat → Int32)) (Rn : Int32) (Ra : (Nat → Int32)) (Rb : (Nat → Int32)) (Rd : (Nat → Int32)) (Ua : (Nat → Int32)) (Wg : Int32) (Wz : Int32) (Ww : Int32) (Wr : Int32) (Mh : Int32) (Mn : Int32) (Mm : Int32) (Mt : (Nat → Int32)) (Mk : (Nat → Int32)) (Ms : (Nat → Int32)) (Me : (Nat → Int32)) (Mp : (Nat → Int32)) (Mw : (Nat → Int32)) (Ml : (Nat → Int32)) (My : (Nat → Int64)) (Oa : (Nat → Int64)) (Od : (Nat → UInt64)) (x5 : Int32) : Option Int32 :=
  gd (inb (x5 + (1 : Int32)) L) (
    gd (inb (x5 + (2 : Int32)) L) (
      bn (fL_insert N Tn Ta Oa (xs ((x5 + (1 : Int32))).toNatClampNeg) (xs ((x5 + (2 : Int32))).toNatClampNeg)) (fun v306 =>
        gd (inb (x5 + (1 : Int32)) L) (
          gd (inb (x5 + (2 : Int32)) L) (
            bn (fX9_insert N Mh Mn Mm Mt (xs ((x5 + (1 : Int32))).toNatClampNeg) (xs ((x5 + (2 : Int32))).toNatClampNeg)) (fun v324 =>
              bn (fX9_thrown N v324.2.1 v324.2.2.1 Mm) (fun v330 =>
                if v330 = v306.1 then
                  if v306.1 = 0 then
                    gd (inb (0 : Int32) 1) (
                      if (lg_cmp (v306.2.2.2 ((0 : Int32)).toNatClampNeg) ((v324.1).toInt64)) = 0 then
                        fL_law_J357 N L xs k28 v306.2.1 v306.2.2.1 Fn Fa Ba Rn Ra Rb Rd Ua Wg Wz Ww Wr v324.2.1 v324.2.2.1 Mm v324.2.2.2 Mk Ms Me Mp Mw Ml My v306.2.2.2 Od x5
                      else
                        fL_law_J355 N L xs v306.2.1 v306.2.2.1 Fn Fa Ba Rn Ra Rb Rd Ua Wg Wz Ww Wr v324.2.1 v324.2.2.1 Mm v324.2.2.2 Mk Ms Me Mp Mw Ml My v306.2.2.2 Od)
                  else
                    fL_law_J357 N L xs k28 v306.2.1 v306.2.2.1 Fn Fa Ba Rn Ra Rb Rd Ua Wg Wz Ww Wr v324.2.1 v324.2.2.1 Mm v324.2.2.2 Mk Ms Me Mp Mw Ml My v306.2.2.2 Od x5
                else
                  fL_law_J338 N L xs v306.2.1 v306.2.2.1 Fn Fa Ba Rn Ra Rb Rd Ua Wg Wz Ww Wr v324.2.1 v324.2.2.1 Mm v324.2.2.2 Mk Ms Me Mp Mw Ml My v306.2.2.2 Od)))))))
def fL_law_J425 (N : Nat) (L : Nat) (xs : Nat → Int32) (k28 : Int32 → (Nat → Int32) → Int32 → (Nat → Int32) → (Nat → Int32) → Int32 → (Nat → Int32) → (Nat → Int32) → (Nat → Int32) → (Nat → Int32) → Int32 → Int32 → Int32 → Int32 → Int32 → Int32 → Int32 → (Nat → Int32) → (Nat → Int32) → (Nat → Int32) → (Nat → Int32) → (Nat → Int32) → (Nat → Int32) → (Nat → Int32) → (Nat → Int64) → (Nat → Int64) → (Nat → UInt64) → Int32 → Option Int32) (Tn : Int32) (Ta : (Nat → Int32)) (Fn : Int32) (Fa : (Nat → Int32)) (Ba : (Nat → Int32)) (Rn : Int32) (Ra : (Nat → Int32)) (Rb : (Nat → Int32)) (Rd : (Nat → Int32)) (Ua : (Nat → Int32)) (Wg : Int32) (Wz : Int32) (Ww : Int32) (Wr : Int32) (Mh : Int32) (Mn : Int32) (Mm : Int32) (Mt : (Nat → Int32)) (Mk : (Nat → Int32)) (Ms : (Nat → Int32)) (Me : (Nat → Int32)) (Mp : (Nat → Int32)) (Mw : (Nat → Int32)) (Ml : (Nat → Int32)) (My : (Nat → Int64)) (Oa : (Nat → Int64)) (Od : (Nat → UInt64)) (x5 : Int32) : Option Int32 :=
  fL_law_J2831 N L xs k28 Tn Ta Fn Fa Ba Rn Ra Rb Rd Ua Wg Wz Ww Wr Mh Mn Mm Mt Mk Ms Me Mp Mw Ml My Oa Od x5
def fL_law_J360 (N : Nat) (L : Nat) (xs : Nat → Int32) (k28 : Int32 → (Nat → Int32) → Int32 → (Nat → Int32) → (Nat → Int32) → Int32 → (Nat → Int32) → (Nat → Int32) → (Nat → Int32) → (Nat → Int32) → Int32 → Int32 → Int32 → Int32 → Int32 → Int32 → Int32 → (Nat → Int32) → (Nat → Int32) → (Nat → Int32) → (Nat → Int32) → (Nat → Int32) → (Nat → Int32) → (Nat → Int32) → (Nat → Int64) → (Nat → Int64) → (Nat → UInt64) → Int32 → Option Int32) (Tn : Int32) (Ta : (Nat → Int32)) (Fn : Int32) (Fa : (Nat → Int32)) (Ba : (Nat → Int32)) (Rn : Int32) (Ra : (Nat → Int32)) (Rb : (Nat → Int32)) (Rd : (Nat → Int32)) (Ua : (Nat → Int32)) (Wg : Int32) (Wz : Int32) (Ww : Int32) (Wr : Int32) (Mh : Int32) (Mn : Int32) (Mm : Int32) (Mt : (Nat → Int32)) (Mk : (Nat → Int32)) (Ms : (Nat → Int32)) (Me : (Nat → Int32)) (Mp : (Nat → Int32)) (Mw : (Nat → Int32)) (Ml : (Nat → Int32)) (My : (Nat → Int64)) (Oa : (Nat → Int64)) (Od : (Nat → UInt64)) (x5 : Int32) : Option Int32 :=
  gd (inb (x5 + (1 : Int32)) L) (
    gd (inb (x5 + (2 : Int32)) L) (
      bn (fL_set N Tn Ta Oa (xs ((x5 + (1 : Int32))).toNatClampNeg) (xs ((x5 + (2 : Int32))).toNatClampNeg)) (fun v374 =>
        gd (inb (x5 + (1 : Int32)) L) (
          gd (inb (x5 + (2 : Int32)) L) (
            bn (fX9_set N Mh Mn Mm Mt (xs ((x5 + (1 : Int32))).toNatClampNeg) (xs ((x5 + (2 : Int32))).toNatClampNeg)) (fun v392 =>
              bn (fX9_thrown N v392.2.1 Mn Mm) (fun v398 =>
                if v398 = v374.1 then
                  if v374.1 = 0 then
                    gd (inb (0 : Int32) 1) (
                      if (lg_cmp (v374.2.2 ((0 : Int32)).toNatClampNeg) ((v392.1).toInt64)) = 0 then
                        fL_law_J425 N L xs k28 Tn v374.2.1 Fn Fa Ba Rn Ra Rb Rd Ua Wg Wz Ww Wr v392.2.1 Mn Mm v392.2.2 Mk Ms Me Mp Mw Ml My v374.2.2 Od x5
                      else
                        fL_law_J423 N L xs Tn v374.2.1 Fn Fa Ba Rn Ra Rb Rd Ua Wg Wz Ww Wr v392.2.1 Mn Mm v392.2.2 Mk Ms Me Mp Mw Ml My v374.2.2 Od)
                  else
                    fL_law_J425 N L xs k28 Tn v374.2.1 Fn Fa Ba Rn Ra Rb Rd Ua Wg Wz Ww Wr v392.2.1 Mn Mm v392.2.2 Mk Ms Me Mp Mw Ml My v374.2.2 Od x5
                else
                  fL_law_J406 N L xs Tn v374.2.1 Fn Fa Ba Rn Ra Rb Rd Ua Wg Wz Ww Wr v392.2.1 Mn Mm v392.2.2 Mk Ms Me Mp Mw Ml My v374.2.2 Od)))))))
def fL_law_J481 (N : Nat) (L : Nat) (xs : Nat → Int32) (k28 : Int32 → (Nat → Int32) → Int32 → (Nat → Int32) → (Nat → Int32) → Int32 → (Nat → Int32) → (Nat → Int32) → (Nat → Int32) → (Nat → Int32) → Int32 → Int32 → Int32 → Int32 → Int32 → Int32 → Int32 → (Nat → Int32) → (Nat → Int32) → (Nat → Int32) → (Nat → Int32) → (Nat → Int32) → (Nat → Int32) → (Nat → Int32) → (Nat → Int64) → (Nat → Int64) → (Nat → UInt64) → Int32 → Option Int32) (Tn : Int32) (Ta : (Nat → Int32)) (Fn : Int32) (Fa : (Nat → Int32)) (Ba : (Nat → Int32)) (Rn : Int32) (Ra : (Nat → Int32)) (Rb : (Nat → Int32)) (Rd : (Nat → Int32)) (Ua : (Nat → Int32)) (Wg : Int32) (Wz : Int32) (Ww : Int32) (Wr : Int32) (Mh : Int32) (Mn : Int32) (Mm : Int32) (Mt : (Nat → Int32)) (Mk : (Nat → Int32)) (Ms : (Nat → Int32)) (Me : (Nat → Int32)) (Mp : (Nat → Int32)) (Mw : (Nat → Int32)) (Ml : (Nat → Int32)) (My : (Nat → Int64)) (Oa : (Nat → Int64)) (Od : (Nat → UInt64)) (x5 : Int32) : Option Int32 :=
  fL_law_J2831 N L xs k28 Tn Ta Fn Fa Ba Rn Ra Rb Rd Ua Wg Wz Ww Wr Mh Mn Mm Mt Mk Ms Me Mp Mw Ml My Oa Od x5
def fL_law_J428 (N : Nat) (L : Nat) (xs : Nat → Int32) (k28 : Int32 → (Nat → Int32) → Int32 → (Nat → Int32) → (Nat → Int32) → Int32 → (Nat → Int32) → (Nat → Int32) → (Nat → Int32) → (Nat → Int32) → Int32 → Int32 → Int32 → Int32 → Int32 → Int32 → Int32 → (Nat → Int32) → (Nat → Int32) → (Nat → Int32) → (Nat → Int32) → (Nat → Int32) → (Nat → Int32) → (Nat → Int32) → (Nat → Int64) → (Nat → Int64) → (Nat → UInt64) → Int32 → Option Int32) (Tn : Int32) (Ta : (Nat → Int32)) (Fn : Int32) (Fa : (Nat → Int32)) (Ba : (Nat → Int32)) (Rn : Int32) (Ra : (Nat → Int32)) (Rb : (Nat → Int32)) (Rd : (Nat → Int32)) (Ua : (Nat → Int32)) (Wg : Int32) (Wz : Int32) (Ww : Int32) (Wr : Int32) (Mh : Int32) (Mn : Int32) (Mm : Int32) (Mt : (Nat → Int32)) (Mk : (Nat → Int32)) (Ms : (Nat → Int32)) (Me : (Nat → Int32)) (Mp : (Nat → Int32)) (Mw : (Nat → Int32)) (Ml : (Nat → Int32)) (My : (Nat → Int64)) (Oa : (Nat → Int64)) (Od : (Nat → UInt64)) (x5 : Int32) : Option Int32 :=
  gd (inb (x5 + (1 : Int32)) L) (
    bn (fL_remove N Tn Ta Oa (xs ((x5 + (1 : Int32))).toNatClampNeg)) (fun v436 =>
      gd (inb (x5 + (1 : Int32)) L) (
        bn (fX9_remove N Mh Mn Mm Mt (xs ((x5 + (1 : Int32))).toNatClampNeg)) (fun v448 =>
          bn (fX9_thrown N v448.2.1 v448.2.2.1 Mm) (fun v454 =>
            if v454 = v436.1 then
              if v436.1 = 0 then
                gd (inb (0 : Int32) 1) (
                  if (lg_cmp (v436.2.2.2 ((0 : Int32)).toNatClampNeg) ((v448.1).toInt64)) = 0 then
                    fL_law_J481 N L xs k28 v436.2.1 v436.2.2.1 Fn Fa Ba Rn Ra Rb Rd Ua Wg Wz Ww Wr v448.2.1 v448.2.2.1 Mm v448.2.2.2 Mk Ms Me Mp Mw Ml My v436.2.2.2 Od x5
                  else
                    fL_law_J479 N L xs v436.2.1 v436.2.2.1 Fn Fa Ba Rn Ra Rb Rd Ua Wg Wz Ww Wr v448.2.1 v448.2.2.1 Mm v448.2.2.2 Mk Ms Me Mp Mw Ml My v436.2.2.2 Od)
              else
                fL_law_J481 N L xs k28 v436.2.1 v436.2.2.1 Fn Fa Ba Rn Ra Rb Rd Ua Wg Wz Ww Wr v448.2.1 v448.2.2.1 Mm v448.2.2.2 Mk Ms Me Mp Mw Ml My v436.2.2.2 Od x5
            else
              fL_law_J462 N L xs v436.2.1 v436.2.2.1 Fn Fa Ba Rn Ra Rb Rd Ua Wg Wz Ww Wr v448.2.1 v448.2.2.1 Mm v448.2.2.2 Mk Ms Me Mp Mw Ml My v436.2.2.2 Od)))))
def fL_law_J484 (N : Nat) (L : Nat) (xs : Nat → Int32) (k28 : Int32 → (Nat → Int32) → Int32 → (Nat → Int32) → (Nat → Int32) → Int32 → (Nat → Int32) → (Nat → Int32) → (Nat → Int32) → (Nat → Int32) → Int32 → Int32 → Int32 → Int32 → Int32 → Int32 → Int32 → (Nat → Int32) → (Nat → Int32) → (Nat → Int32) → (Nat → Int32) → (Nat → Int32) → (Nat → Int32) → (Nat → Int32) → (Nat → Int64) → (Nat → Int64) → (Nat → UInt64) → Int32 → Option Int32) (Tn : Int32) (Ta : (Nat → Int32)) (Fn : Int32) (Fa : (Nat → Int32)) (Ba : (Nat → Int32)) (Rn : Int32) (Ra : (Nat → Int32)) (Rb : (Nat → Int32)) (Rd : (Nat → Int32)) (Ua : (Nat → Int32)) (Wg : Int32) (Wz : Int32) (Ww : Int32) (Wr : Int32) (Mh : Int32) (Mn : Int32) (Mm : Int32) (Mt : (Nat → Int32)) (Mk : (Nat → Int32)) (Ms : (Nat → Int32)) (Me : (Nat → Int32)) (Mp : (Nat → Int32)) (Mw : (Nat → Int32)) (Ml : (Nat → Int32)) (My : (Nat → Int64)) (Oa : (Nat → Int64)) (Od : (Nat → UInt64)) (x5 : Int32) : Option Int32 :=
  bn (fX8_clear N Tn) (fun v485 =>
    bn (fX9_clear N Mh Mn Mm) (fun v489 =>
      if v485.1 = v489.1 then
        fL_law_J2831 N L xs k28 v485.2 Ta Fn Fa Ba Rn Ra Rb Rd Ua Wg Wz Ww Wr v489.2.1 v489.2.2 Mm Mt Mk Ms Me Mp Mw Ml My Oa Od x5
      else
        fL_law_J495 N L xs v485.2 Ta Fn Fa Ba Rn Ra Rb Rd Ua Wg Wz Ww Wr v489.2.1 v489.2.2 Mm Mt Mk Ms Me Mp Mw Ml My Oa Od))
def fL_law_J497 (N : Nat) (L : Nat) (xs : Nat → Int32) (k28 : Int32 → (Nat → Int32) → Int32 → (Nat → Int32) → (Nat → Int32) → Int32 → (Nat → Int32) → (Nat → Int32) → (Nat → Int32) → (Nat → Int32) → Int32 → Int32 → Int32 → Int32 → Int32 → Int32 → Int32 → (Nat → Int32) → (Nat → Int32) → (Nat → Int32) → (Nat → Int32) → (Nat → Int32) → (Nat → Int32) → (Nat → Int32) → (Nat → Int64) → (Nat → Int64) → (Nat → UInt64) → Int32 → Option Int32) (Tn : Int32) (Ta : (Nat → Int32)) (Fn : Int32) (Fa : (Nat → Int32)) (Ba : (Nat → Int32)) (Rn : Int32) (Ra : (Nat → Int32)) (Rb : (Nat → Int32)) (Rd : (Nat → Int32)) (Ua : (Nat → Int32)) (Wg : Int32) (Wz : Int32) (Ww : Int32) (Wr : Int32) (Mh : Int32) (Mn : Int32) (Mm : Int32) (Mt : (Nat → Int32)) (Mk : (Nat → Int32)) (Ms : (Nat → Int32)) (Me : (Nat → Int32)) (Mp : (Nat → Int32)) (Mw : (Nat → Int32)) (Ml : (Nat → Int32)) (My : (Nat → Int64)) (Oa : (Nat → Int64)) (Od : (Nat → UInt64)) (x5 : Int32) : Option Int32 :=
  bn (fX8_reverse N Tn Ta) (fun v498 =>
    bn (fX9_reverse N Mh Mn Mm Mt Mk) (fun v502 =>
      if v498.1 = v502.1 then
        fL_law_J2831 N L xs k28 Tn v498.2 Fn Fa Ba Rn Ra Rb Rd Ua Wg Wz Ww Wr v502.2.1 Mn Mm v502.2.2.1 v502.2.2.2 Ms Me Mp Mw Ml My Oa Od x5
      else
        fL_law_J508 N L xs Tn v498.2 Fn Fa Ba Rn Ra Rb Rd Ua Wg Wz Ww Wr v502.2.1 Mn Mm v502.2.2.1 v502.2.2.2 Ms Me Mp Mw Ml My Oa Od))
def fL_law_J563 (N : Nat) (L : Nat) (xs : Nat → Int32) (k28 : Int32 → (Nat → Int32) → Int32 → (Nat → Int32) → (Nat → Int32) → Int32 → (Nat → Int32) → (Nat → Int32) → (Nat → Int32) → (Nat → Int32) → Int32 → Int32 → Int32 → Int32 → Int32 → Int32 → Int32 → (Nat → Int32) → (Nat → Int32) → (Nat → Int32) → (Nat → Int32) → (Nat → Int32) → (Nat → Int32) → (Nat → Int32) → (Nat → Int64) → (Nat → Int64) → (Nat → UInt64) → Int32 → Option Int32) (Tn : Int32) (Ta : (Nat → Int32)) (Fn : Int32) (Fa : (Nat → Int32)) (Ba : (Nat → Int32)) (Rn : Int32) (Ra : (Nat → Int32)) (Rb : (Nat → Int32)) (Rd : (Nat → Int32)) (Ua : (Nat → Int32)) (Wg : Int32) (Wz : Int32) (Ww : Int32) (Wr : Int32) (Mh : Int32) (Mn : Int32) (Mm : Int32) (Mt : (Nat → Int32)) (Mk : (Nat → Int32)) (Ms : (Nat → Int32)) (Me : (Nat → Int32)) (Mp : (Nat → Int32)) (Mw : (Nat → Int32)) (Ml : (Nat → Int32)) (My : (Nat → Int64)) (Oa : (Nat → Int64)) (Od : (Nat → UInt64)) (x5 : Int32) : Option Int32 :=
  fL_law_J2831 N L xs k28 Tn Ta Fn Fa Ba Rn Ra Rb Rd Ua Wg Wz Ww Wr Mh Mn Mm Mt Mk Ms Me Mp Mw Ml My Oa Od x5
def fL_law_J510 (N : Nat) (L : Nat) (xs : Nat → Int32) (k28 : Int32 → (Nat → Int32) → Int32 → (Nat → Int32) → (Nat → Int32) → Int32 → (Nat → Int32) → (Nat → Int32) → (Nat → Int32) → (Nat → Int32) → Int32 → Int32 → Int32 → Int32 → Int32 → Int32 → Int32 → (Nat → Int32) → (Nat → Int32) → (Nat → Int32) → (Nat → Int32) → (Nat → Int32) → (Nat → Int32) → (Nat → Int32) → (Nat → Int64) → (Nat → Int64) → (Nat → UInt64) → Int32 → Option Int32) (Tn : Int32) (Ta : (Nat → Int32)) (Fn : Int32) (Fa : (Nat → Int32)) (Ba : (Nat → Int32)) (Rn : Int32) (Ra : (Nat → Int32)) (Rb : (Nat → Int32)) (Rd : (Nat → Int32)) (Ua : (Nat → Int32)) (Wg : Int32) (Wz : Int32) (Ww : Int32) (Wr : Int32) (Mh : Int32) (Mn : Int32) (Mm : Int32) (Mt : (Nat → Int32)) (Mk : (Nat → Int32)) (Ms : (Nat → Int32)) (Me : (Nat → Int32)) (Mp : (Nat → Int32)) (Mw : (Nat → Int32)) (Ml : (Nat → Int32)) (My : (Nat → Int64)) (Oa : (Nat → Int64)) (Od : (Nat → UInt64)) (x5 : Int32) : Option Int32 :=
  gd (inb (x5 + (1 : Int32)) L) (
    bn (fL_rotate N Tn Ta Oa (xs ((x5 + (1 : Int32))).toNatClampNeg)) (fun v518 =>
      gd (inb (x5 + (1 : Int32)) L) (
        bn (fX9_rotate N Mh Mn Mm Mt Mk (xs ((x5 + (1 : Int32))).toNatClampNeg)) (fun v530 =>
          bn (fX9_thrown N v530.2.1 Mn Mm) (fun v536 =>
            if v536 = v518.1 then
              if v518.1 = 0 then
                gd (inb (0 : Int32) 1) (
                  if (lg_cmp (v518.2.2 ((0 : Int32)).toNatClampNeg) ((v530.1).toInt64)) = 0 then
                    fL_law_J563 N L xs k28 Tn v518.2.1 Fn Fa Ba Rn Ra Rb Rd Ua Wg Wz Ww Wr v530.2.1 Mn Mm v530.2.2.1 v530.2.2.2 Ms Me Mp Mw Ml My v518.2.2 Od x5
                  else
                    fL_law_J561 N L xs Tn v518.2.1 Fn Fa Ba Rn Ra Rb Rd Ua Wg Wz Ww Wr v530.2.1 Mn Mm v530.2.2.1 v530.2.2.2 Ms Me Mp Mw Ml My v518.2.2 Od)
              else
                fL_law_J563 N L xs k28 Tn v518.2.1 Fn Fa Ba Rn Ra Rb Rd Ua Wg Wz Ww Wr v530.2.1 Mn Mm v530.2.2.1 v530.2.2.2 Ms Me Mp Mw Ml My v518.2.2 Od x5
            else
              fL_law_J544 N L xs Tn v518.2.1 Fn Fa Ba Rn Ra Rb Rd Ua Wg Wz Ww Wr v530.2.1 Mn Mm v530.2.2.1 v530.2.2.2 Ms Me Mp Mw Ml My v518.2.2 Od)))))
def fL_law_J631 (N : Nat) (L : Nat) (xs : Nat → Int32) (k28 : Int32 → (Nat → Int32) → Int32 → (Nat → Int32) → (Nat → Int32) → Int32 → (Nat → Int32) → (Nat → Int32) → (Nat → Int32) → (Nat → Int32) → Int32 → Int32 → Int32 → Int32 → Int32 → Int32 → Int32 → (Nat → Int32) → (Nat → Int32) → (Nat → Int32) → (Nat → Int32) → (Nat → Int32) → (Nat → Int32) → (Nat → Int32) → (Nat → Int64) → (Nat → Int64) → (Nat → UInt64) → Int32 → Option Int32) (Tn : Int32) (Ta : (Nat → Int32)) (Fn : Int32) (Fa : (Nat → Int32)) (Ba : (Nat → Int32)) (Rn : Int32) (Ra : (Nat → Int32)) (Rb : (Nat → Int32)) (Rd : (Nat → Int32)) (Ua : (Nat → Int32)) (Wg : Int32) (Wz : Int32) (Ww : Int32) (Wr : Int32) (Mh : Int32) (Mn : Int32) (Mm : Int32) (Mt : (Nat → Int32)) (Mk : (Nat → Int32)) (Ms : (Nat → Int32)) (Me : (Nat → Int32)) (Mp : (Nat → Int32)) (Mw : (Nat → Int32)) (Ml : (Nat → Int32)) (My : (Nat → Int64)) (Oa : (Nat → Int64)) (Od : (Nat → UInt64)) (x5 : Int32) : Option Int32 :=
  fL_law_J2831 N L xs k28 Tn Ta Fn Fa Ba Rn Ra Rb Rd Ua Wg Wz Ww Wr Mh Mn Mm Mt Mk Ms Me Mp Mw Ml My Oa Od x5
def fL_law_J566 (N : Nat) (L : Nat) (xs : Nat → Int32) (k28 : Int32 → (Nat → Int32) → Int32 → (Nat → Int32) → (Nat → Int32) → Int32 → (Nat → Int32) → (Nat → Int32) → (Nat → Int32) → (Nat → Int32) → Int32 → Int32 → Int32 → Int32 → Int32 → Int32 → Int32 → (Nat → Int32) → (Nat → Int32) → (Nat → Int32) → (Nat → Int32) → (Nat → Int32) → (Nat → Int32) → (Nat → Int32) → (Nat → Int64) → (Nat → Int64) → (Nat → UInt64) → Int32 → Option Int32) (Tn : Int32) (Ta : (Nat → Int32)) (Fn : Int32) (Fa : (Nat → Int32)) (Ba : (Nat → Int32)) (Rn : Int32) (Ra : (Nat → Int32)) (Rb : (Nat → Int32)) (Rd : (Nat → Int32)) (Ua : (Nat → Int32)) (Wg : Int32) (Wz : Int32) (Ww : Int32) (Wr : Int32) (Mh : Int32) (Mn : Int32) (Mm : Int32) (Mt : (Nat → Int32)) (Mk : (Nat → Int32)) (Ms : (Nat → Int32)) (Me : (Nat → Int32)) (Mp : (Nat → Int32)) (Mw : (Nat → Int32)) (Ml : (Nat → Int32)) (My : (Nat → Int64)) (Oa : (Nat → Int64)) (Od : (Nat → UInt64)) (x5 : Int32) : Option Int32 :=
  gd (inb (x5 + (1 : Int32)) L) (
    gd (inb (x5 + (2 : Int32)) L) (
      bn (fL_appendPart N Tn Ta Oa (xs ((x5 + (1 : Int32))).toNatClampNeg) (xs ((x5 + (2 : Int32))).toNatClampNeg)) (fun v580 =>
        gd (inb (x5 + (1 : Int32)) L) (
          gd (inb (x5 + (2 : Int32)) L) (
            bn (fX9_appendPart N Mh Mn Mm Mt (xs ((x5 + (1 : Int32))).toNatClampNeg) (xs ((x5 + (2 : Int32))).toNatClampNeg)) (fun v598 =>
              bn (fX9_thrown N v598.2.1 v598.2.2.1 Mm) (fun v604 =>
                if v604 = v580.1 then
                  if v580.1 = 0 then
                    gd (inb (0 : Int32) 1) (
                      if (lg_cmp (v580.2.2.2 ((0 : Int32)).toNatClampNeg) ((v598.1).toInt64)) = 0 then
                        fL_law_J631 N L xs k28 v580.2.1 v580.2.2.1 Fn Fa Ba Rn Ra Rb Rd Ua Wg Wz Ww Wr v598.2.1 v598.2.2.1 Mm v598.2.2.2 Mk Ms Me Mp Mw Ml My v580.2.2.2 Od x5
                      else
                        fL_law_J629 N L xs v580.2.1 v580.2.2.1 Fn Fa Ba Rn Ra Rb Rd Ua Wg Wz Ww Wr v598.2.1 v598.2.2.1 Mm v598.2.2.2 Mk Ms Me Mp Mw Ml My v580.2.2.2 Od)
                  else
                    fL_law_J631 N L xs k28 v580.2.1 v580.2.2.1 Fn Fa Ba Rn Ra Rb Rd Ua Wg Wz Ww Wr v598.2.1 v598.2.2.1 Mm v598.2.2.2 Mk Ms Me Mp Mw Ml My v580.2.2.2 Od x5
                else
                  fL_law_J612 N L xs v580.2.1 v580.2.2.1 Fn Fa Ba Rn Ra Rb Rd Ua Wg Wz Ww Wr v598.2.1 v598.2.2.1 Mm v598.2.2.2 Mk Ms Me Mp Mw Ml My v580.2.2.2 Od)))))))
def fL_law_J699 (N : Nat) (L : Nat) (xs : Nat → Int32) (k28 : Int32 → (Nat → Int32) → Int32 → (Nat → Int32) → (Nat → Int32) → Int32 → (Nat → Int32) → (Nat → Int32) → (Nat → Int32) → (Nat → Int32) → Int32 → Int32 → Int32 → Int32 → Int32 → Int32 → Int32 → (Nat → Int32) → (Nat → Int32) → (Nat → Int32) → (Nat → Int32) → (Nat → Int32) → (Nat → Int32) → (Nat → Int32) → (Nat → Int64) → (Nat → Int64) → (Nat → UInt64) → Int32 → Option Int32) (Tn : Int32) (Ta : (Nat → Int32)) (Fn : Int32) (Fa : (Nat → Int32)) (Ba : (Nat → Int32)) (Rn : Int32) (Ra : (Nat → Int32)) (Rb : (Nat → Int32)) (Rd : (Nat → Int32)) (Ua : (Nat → Int32)) (Wg : Int32) (Wz : Int32) (Ww : Int32) (Wr : Int32) (Mh : Int32) (Mn : Int32) (Mm : Int32) (Mt : (Nat → Int32)) (Mk : (Nat → Int32)) (Ms : (Nat → Int32)) (Me : (Nat → Int32)) (Mp : (Nat → Int32)) (Mw : (Nat → Int32)) (Ml : (Nat → Int32)) (My : (Nat → Int64)) (Oa : (Nat → Int64)) (Od : (Nat → UInt64)) (x5 : Int32) : Option Int32 :=
  fL_law_J2831 N L xs k28 Tn Ta Fn Fa Ba Rn Ra Rb Rd Ua Wg Wz Ww Wr Mh Mn Mm Mt Mk Ms Me Mp Mw Ml My Oa Od x5
def fL_law_J634 (N : Nat) (L : Nat) (xs : Nat → Int32) (k28 : Int32 → (Nat → Int32) → Int32 → (Nat → Int32) → (Nat → Int32) → Int32 → (Nat → Int32) → (Nat → Int32) → (Nat → Int32) → (Nat → Int32) → Int32 → Int32 → Int32 → Int32 → Int32 → Int32 → Int32 → (Nat → Int32) → (Nat → Int32) → (Nat → Int32) → (Nat → Int32) → (Nat → Int32) → (Nat → Int32) → (Nat → Int32) → (Nat → Int64) → (Nat → Int64) → (Nat → UInt64) → Int32 → Option Int32) (Tn : Int32) (Ta : (Nat → Int32)) (Fn : Int32) (Fa : (Nat → Int32)) (Ba : (Nat → Int32)) (Rn : Int32) (Ra : (Nat → Int32)) (Rb : (Nat → Int32)) (Rd : (Nat → Int32)) (Ua : (Nat → Int32)) (Wg : Int32) (Wz : Int32) (Ww : Int32) (Wr : Int32) (Mh : Int32) (Mn : Int32) (Mm : Int32) (Mt : (Nat → Int32)) (Mk : (Nat → Int32)) (Ms : (Nat → Int32)) (Me : (Nat → Int32)) (Mp : (Nat → Int32)) (Mw : (Nat → Int32)) (Ml : (Nat → Int32)) (My : (Nat → Int64)) (Oa : (Nat → Int64)) (Od : (Nat → UInt64)) (x5 : Int32) : Option Int32 :=
  gd (inb (x5 + (1 : Int32)) L) (
    gd (inb (x5 + (2 : Int32)) L) (
      bn (fL_loadDeBruijn N Tn Ta Wg Wz Ww Wr Oa (xs ((x5 + (1 : Int32))).toNatClampNeg) (xs ((x5 + (2 : Int32))).toNatClampNeg)) (fun v648 =>
        gd (inb (x5 + (1 : Int32)) L) (
          gd (inb (x5 + (2 : Int32)) L) (
            bn (fX9_loadDeBruijn N Mh Mn Mm Mt Mw Ml (xs ((x5 + (1 : Int32))).toNatClampNeg) (xs ((x5 + (2 : Int32))).toNatClampNeg)) (fun v666 =>
              bn (fX9_thrown N v666.2.1 v666.2.2.1 Mm) (fun v672 =>
                if v672 = v648.1 then
                  if v648.1 = 0 then
                    gd (inb (0 : Int32) 1) (
                      if (lg_cmp (v648.2.2.2.2.2.2.2 ((0 : Int32)).toNatClampNeg) ((v666.1).toInt64)) = 0 then
                        fL_law_J699 N L xs k28 v648.2.1 v648.2.2.1 Fn Fa Ba Rn Ra Rb Rd Ua v648.2.2.2.1 v648.2.2.2.2.1 v648.2.2.2.2.2.1 v648.2.2.2.2.2.2.1 v666.2.1 v666.2.2.1 Mm v666.2.2.2.1 Mk Ms Me Mp v666.2.2.2.2.1 v666.2.2.2.2.2 My v648.2.2.2.2.2.2.2 Od x5
                      else
                        fL_law_J697 N L xs v648.2.1 v648.2.2.1 Fn Fa Ba Rn Ra Rb Rd Ua v648.2.2.2.1 v648.2.2.2.2.1 v648.2.2.2.2.2.1 v648.2.2.2.2.2.2.1 v666.2.1 v666.2.2.1 Mm v666.2.2.2.1 Mk Ms Me Mp v666.2.2.2.2.1 v666.2.2.2.2.2 My v648.2.2.2.2.2.2.2 Od)
                  else
                    fL_law_J699 N L xs k28 v648.2.1 v648.2.2.1 Fn Fa Ba Rn Ra Rb Rd Ua v648.2.2.2.1 v648.2.2.2.2.1 v648.2.2.2.2.2.1 v648.2.2.2.2.2.2.1 v666.2.1 v666.2.2.1 Mm v666.2.2.2.1 Mk Ms Me Mp v666.2.2.2.2.1 v666.2.2.2.2.2 My v648.2.2.2.2.2.2.2 Od x5
                else
                  fL_law_J680 N L xs v648.2.1 v648.2.2.1 Fn Fa Ba Rn Ra Rb Rd Ua v648.2.2.2.1 v648.2.2.2.2.1 v648.2.2.2.2.2.1 v648.2.2.2.2.2.2.1 v666.2.1 v666.2.2.1 Mm v666.2.2.2.1 Mk Ms Me Mp v666.2.2.2.2.1 v666.2.2.2.2.2 My v648.2.2.2.2.2.2.2 Od)))))))
def fL_law_J779 (N : Nat) (L : Nat) (xs : Nat → Int32) (k28 : Int32 → (Nat → Int32) → Int32 → (Nat → Int32) → (Nat → Int32) → Int32 → (Nat → Int32) → (Nat → Int32) → (Nat → Int32) → (Nat → Int32) → Int32 → Int32 → Int32 → Int32 → Int32 → Int32 → Int32 → (Nat → Int32) → (Nat → Int32) → (Nat → Int32) → (Nat → Int32) → (Nat → Int32) → (Nat → Int32) → (Nat → Int32) → (Nat → Int64) → (Nat → Int64) → (Nat → UInt64) → Int32 → Option Int32) (Tn : Int32) (Ta : (Nat → Int32)) (Fn : Int32) (Fa : (Nat → Int32)) (Ba : (Nat → Int32)) (Rn : Int32) (Ra : (Nat → Int32)) (Rb : (Nat → Int32)) (Rd : (Nat → Int32)) (Ua : (Nat → Int32)) (Wg : Int32) (Wz : Int32) (Ww : Int32) (Wr : Int32) (Mh : Int32) (Mn : Int32) (Mm : Int32) (Mt : (Nat → Int32)) (Mk : (Nat → Int32)) (Ms : (Nat → Int32)) (Me : (Nat → Int32)) (Mp : (Nat → Int32)) (Mw : (Nat → Int32)) (Ml : (Nat → Int32)) (My : (Nat → Int64)) (Oa : (Nat → Int64)) (Od : (Nat → UInt64)) (x5 : Int32) : Option Int32 :=
  fL_law_J2831 N L xs k28 Tn Ta Fn Fa Ba Rn Ra Rb Rd Ua Wg Wz Ww Wr Mh Mn Mm Mt Mk Ms Me Mp Mw Ml My Oa Od x5
def fL_law_J702 (N : Nat) (L : Nat) (xs : Nat → Int32) (k28 : Int32 → (Nat → Int32) → Int32 → (Nat → Int32) → (Nat → Int32) → Int32 → (Nat → Int32) → (Nat → Int32) → (Nat → Int32) → (Nat → Int32) → Int32 → Int32 → Int32 → Int32 → Int32 → Int32 → Int32 → (Nat → Int32) → (Nat → Int32) → (Nat → Int32) → (Nat → Int32) → (Nat → Int32) → (Nat → Int32) → (Nat → Int32) → (Nat → Int64) → (Nat → Int64) → (Nat → UInt64) → Int32 → Option Int32) (Tn : Int32) (Ta : (Nat → Int32)) (Fn : Int32) (Fa : (Nat → Int32)) (Ba : (Nat → Int32)) (Rn : Int32) (Ra : (Nat → Int32)) (Rb : (Nat → Int32)) (Rd : (Nat → Int32)) (Ua : (Nat → Int32)) (Wg : Int32) (Wz : Int32) (Ww : Int32) (Wr : Int32) (Mh : Int32) (Mn : Int32) (Mm : Int32) (Mt : (Nat → Int32)) (Mk : (Nat → Int32)) (Ms : (Nat → Int32)) (Me : (Nat → Int32)) (Mp : (Nat → Int32)) (Mw : (Nat → Int32)) (Ml : (Nat → Int32)) (My : (Nat → Int64)) (Oa : (Nat → Int64)) (Od : (Nat → UInt64)) (x5 : Int32) : Option Int32 :=
  gd (inb (x5 + (1 : Int32)) L) (
    gd (inb (x5 + (2 : Int32)) L) (
      gd (inb (x5 + (3 : Int32)) L) (
        bn (fL_loadNecklace N Tn Ta Wg Wz Ww Wr Oa (xs ((x5 + (1 : Int32))).toNatClampNeg) (xs ((x5 + (2 : Int32))).toNatClampNeg) (xs ((x5 + (3 : Int32))).toNatClampNeg)) (fun v722 =>
          gd (inb (x5 + (1 : Int32)) L) (
            gd (inb (x5 + (2 : Int32)) L) (
              gd (inb (x5 + (3 : Int32)) L) (
                bn (fX9_loadNecklace N Mh Mn Mm Mt Mw (xs ((x5 + (1 : Int32))).toNatClampNeg) (xs ((x5 + (2 : Int32))).toNatClampNeg) (xs ((x5 + (3 : Int32))).toNatClampNeg)) (fun v746 =>
                  bn (fX9_thrown N v746.2.1 v746.2.2.1 Mm) (fun v752 =>
                    if v752 = v722.1 then
                      if v722.1 = 0 then
                        gd (inb (0 : Int32) 1) (
                          if (lg_cmp (v722.2.2.2.2.2.2.2 ((0 : Int32)).toNatClampNeg) ((v746.1).toInt64)) = 0 then
                            fL_law_J779 N L xs k28 v722.2.1 v722.2.2.1 Fn Fa Ba Rn Ra Rb Rd Ua v722.2.2.2.1 v722.2.2.2.2.1 v722.2.2.2.2.2.1 v722.2.2.2.2.2.2.1 v746.2.1 v746.2.2.1 Mm v746.2.2.2.1 Mk Ms Me Mp v746.2.2.2.2 Ml My v722.2.2.2.2.2.2.2 Od x5
                          else
                            fL_law_J777 N L xs v722.2.1 v722.2.2.1 Fn Fa Ba Rn Ra Rb Rd Ua v722.2.2.2.1 v722.2.2.2.2.1 v722.2.2.2.2.2.1 v722.2.2.2.2.2.2.1 v746.2.1 v746.2.2.1 Mm v746.2.2.2.1 Mk Ms Me Mp v746.2.2.2.2 Ml My v722.2.2.2.2.2.2.2 Od)
                      else
                        fL_law_J779 N L xs k28 v722.2.1 v722.2.2.1 Fn Fa Ba Rn Ra Rb Rd Ua v722.2.2.2.1 v722.2.2.2.2.1 v722.2.2.2.2.2.1 v722.2.2.2.2.2.2.1 v746.2.1 v746.2.2.1 Mm v746.2.2.2.1 Mk Ms Me Mp v746.2.2.2.2 Ml My v722.2.2.2.2.2.2.2 Od x5
                    else
                      fL_law_J760 N L xs v722.2.1 v722.2.2.1 Fn Fa Ba Rn Ra Rb Rd Ua v722.2.2.2.1 v722.2.2.2.2.1 v722.2.2.2.2.2.1 v722.2.2.2.2.2.2.1 v746.2.1 v746.2.2.1 Mm v746.2.2.2.1 Mk Ms Me Mp v746.2.2.2.2 Ml My v722.2.2.2.2.2.2.2 Od)))))))))
def fL_law_J782 (N : Nat) (L : Nat) (xs : Nat → Int32) (k28 : Int32 → (Nat → Int32) → Int32 → (Nat → Int32) → (Nat → Int32) → Int32 → (Nat → Int32) → (Nat → Int32) → (Nat → Int32) → (Nat → Int32) → Int32 → Int32 → Int32 → Int32 → Int32 → Int32 → Int32 → (Nat → Int32) → (Nat → Int32) → (Nat → Int32) → (Nat → Int32) → (Nat → Int32) → (Nat → Int32) → (Nat → Int32) → (Nat → Int64) → (Nat → Int64) → (Nat → UInt64) → Int32 → Option Int32) (Tn : Int32) (Ta : (Nat → Int32)) (Fn : Int32) (Fa : (Nat → Int32)) (Ba : (Nat → Int32)) (Rn : Int32) (Ra : (Nat → Int32)) (Rb : (Nat → Int32)) (Rd : (Nat → Int32)) (Ua : (Nat → Int32)) (Wg : Int32) (Wz : Int32) (Ww : Int32) (Wr : Int32) (Mh : Int32) (Mn : Int32) (Mm : Int32) (Mt : (Nat → Int32)) (Mk : (Nat → Int32)) (Ms : (Nat → Int32)) (Me : (Nat → Int32)) (Mp : (Nat → Int32)) (Mw : (Nat → Int32)) (Ml : (Nat → Int32)) (My : (Nat → Int64)) (Oa : (Nat → Int64)) (Od : (Nat → UInt64)) (x5 : Int32) : Option Int32 :=
  bn (fX8_length N Tn) (fun v783 =>
    bn (fX9_length N Mh Mn Mm) (fun v787 =>
      if v783 = v787.1 then
        fL_law_J2831 N L xs k28 Tn Ta Fn Fa Ba Rn Ra Rb Rd Ua Wg Wz Ww Wr v787.2 Mn Mm Mt Mk Ms Me Mp Mw Ml My Oa Od x5
      else
        fL_law_J793 N L xs Tn Ta Fn Fa Ba Rn Ra Rb Rd Ua Wg Wz Ww Wr v787.2 Mn Mm Mt Mk Ms Me Mp Mw Ml My Oa Od))
def fL_law_J848 (N : Nat) (L : Nat) (xs : Nat → Int32) (k28 : Int32 → (Nat → Int32) → Int32 → (Nat → Int32) → (Nat → Int32) → Int32 → (Nat → Int32) → (Nat → Int32) → (Nat → Int32) → (Nat → Int32) → Int32 → Int32 → Int32 → Int32 → Int32 → Int32 → Int32 → (Nat → Int32) → (Nat → Int32) → (Nat → Int32) → (Nat → Int32) → (Nat → Int32) → (Nat → Int32) → (Nat → Int32) → (Nat → Int64) → (Nat → Int64) → (Nat → UInt64) → Int32 → Option Int32) (Tn : Int32) (Ta : (Nat → Int32)) (Fn : Int32) (Fa : (Nat → Int32)) (Ba : (Nat → Int32)) (Rn : Int32) (Ra : (Nat → Int32)) (Rb : (Nat → Int32)) (Rd : (Nat → Int32)) (Ua : (Nat → Int32)) (Wg : Int32) (Wz : Int32) (Ww : Int32) (Wr : Int32) (Mh : Int32) (Mn : Int32) (Mm : Int32) (Mt : (Nat → Int32)) (Mk : (Nat → Int32)) (Ms : (Nat → Int32)) (Me : (Nat → Int32)) (Mp : (Nat → Int32)) (Mw : (Nat → Int32)) (Ml : (Nat → Int32)) (My : (Nat → Int64)) (Oa : (Nat → Int64)) (Od : (Nat → UInt64)) (x5 : Int32) : Option Int32 :=
  fL_law_J2831 N L xs k28 Tn Ta Fn Fa Ba Rn Ra Rb Rd Ua Wg Wz Ww Wr Mh Mn Mm Mt Mk Ms Me Mp Mw Ml My Oa Od x5
def fL_law_J795 (N : Nat) (L : Nat) (xs : Nat → Int32) (k28 : Int32 → (Nat → Int32) → Int32 → (Nat → Int32) → (Nat → Int32) → Int32 → (Nat → Int32) → (Nat → Int32) → (Nat → Int32) → (Nat → Int32) → Int32 → Int32 → Int32 → Int32 → Int32 → Int32 → Int32 → (Nat → Int32) → (Nat → Int32) → (Nat → Int32) → (Nat → Int32) → (Nat → Int32) → (Nat → Int32) → (Nat → Int32) → (Nat → Int64) → (Nat → Int64) → (Nat → UInt64) → Int32 → Option Int32) (Tn : Int32) (Ta : (Nat → Int32)) (Fn : Int32) (Fa : (Nat → Int32)) (Ba : (Nat → Int32)) (Rn : Int32) (Ra : (Nat → Int32)) (Rb : (Nat → Int32)) (Rd : (Nat → Int32)) (Ua : (Nat → Int32)) (Wg : Int32) (Wz : Int32) (Ww : Int32) (Wr : Int32) (Mh : Int32) (Mn : Int32) (Mm : Int32) (Mt : (Nat → Int32)) (Mk : (Nat → Int32)) (Ms : (Nat → Int32)) (Me : (Nat → Int32)) (Mp : (Nat → Int32)) (Mw : (Nat → Int32)) (Ml : (Nat → Int32)) (My : (Nat → Int64)) (Oa : (Nat → Int64)) (Od : (Nat → UInt64)) (x5 : Int32) : Option Int32 :=
  gd (inb (x5 + (1 : Int32)) L) (
    bn (fL_letterAt N Tn Ta Oa (xs ((x5 + (1 : Int32))).toNatClampNeg)) (fun v803 =>
      gd (inb (x5 + (1 : Int32)) L) (
        bn (fX9_letterAt N Mh Mn Mm Mt (xs ((x5 + (1 : Int32))).toNatClampNeg)) (fun v815 =>
          bn (fX9_thrown N v815.2 Mn Mm) (fun v821 =>
            if v821 = v803.1 then
              if v803.1 = 0 then
                gd (inb (0 : Int32) 1) (
                  if (lg_cmp (v803.2 ((0 : Int32)).toNatClampNeg) ((v815.1).toInt64)) = 0 then
                    fL_law_J848 N L xs k28 Tn Ta Fn Fa Ba Rn Ra Rb Rd Ua Wg Wz Ww Wr v815.2 Mn Mm Mt Mk Ms Me Mp Mw Ml My v803.2 Od x5
                  else
                    fL_law_J846 N L xs Tn Ta Fn Fa Ba Rn Ra Rb Rd Ua Wg Wz Ww Wr v815.2 Mn Mm Mt Mk Ms Me Mp Mw Ml My v803.2 Od)
              else
                fL_law_J848 N L xs k28 Tn Ta Fn Fa Ba Rn Ra Rb Rd Ua Wg Wz Ww Wr v815.2 Mn Mm Mt Mk Ms Me Mp Mw Ml My v803.2 Od x5
            else
              fL_law_J829 N L xs Tn Ta Fn Fa Ba Rn Ra Rb Rd Ua Wg Wz Ww Wr v815.2 Mn Mm Mt Mk Ms Me Mp Mw Ml My v803.2 Od)))))
def fL_law_J940 (N : Nat) (L : Nat) (xs : Nat → Int32) (k28 : Int32 → (Nat → Int32) → Int32 → (Nat → Int32) → (Nat → Int32) → Int32 → (Nat → Int32) → (Nat → Int32) → (Nat → Int32) → (Nat → Int32) → Int32 → Int32 → Int32 → Int32 → Int32 → Int32 → Int32 → (Nat → Int32) → (Nat → Int32) → (Nat → Int32) → (Nat → Int32) → (Nat → Int32) → (Nat → Int32) → (Nat → Int32) → (Nat → Int64) → (Nat → Int64) → (Nat → UInt64) → Int32 → Option Int32) (Tn : Int32) (Ta : (Nat → Int32)) (Fn : Int32) (Fa : (Nat → Int32)) (Ba : (Nat → Int32)) (Rn : Int32) (Ra : (Nat → Int32)) (Rb : (Nat → Int32)) (Rd : (Nat → Int32)) (Ua : (Nat → Int32)) (Wg : Int32) (Wz : Int32) (Ww : Int32) (Wr : Int32) (Mh : Int32) (Mn : Int32) (Mm : Int32) (Mt : (Nat → Int32)) (Mk : (Nat → Int32)) (Ms : (Nat → Int32)) (Me : (Nat → Int32)) (Mp : (Nat → Int32)) (Mw : (Nat → Int32)) (Ml : (Nat → Int32)) (My : (Nat → Int64)) (Oa : (Nat → Int64)) (Od : (Nat → UInt64)) (x5 : Int32) : Option Int32 :=
  fL_law_J2831 N L xs k28 Tn Ta Fn Fa Ba Rn Ra Rb Rd Ua Wg Wz Ww Wr Mh Mn Mm Mt Mk Ms Me Mp Mw Ml My Oa Od x5
def fL_law_J851 (N : Nat) (L : Nat) (xs : Nat → Int32) (k28 : Int32 → (Nat → Int32) → Int32 → (Nat → Int32) → (Nat → Int32) → Int32 → (Nat → Int32) → (Nat → Int32) → (Nat → Int32) → (Nat → Int32) → Int32 → Int32 → Int32 → Int32 → Int32 → Int32 → Int32 → (Nat → Int32) → (Nat → Int32) → (Nat → Int32) → (Nat → Int32) → (Nat → Int32) → (Nat → Int32) → (Nat → Int32) → (Nat → Int64) → (Nat → Int64) → (Nat → UInt64) → Int32 → Option Int32) (Tn : Int32) (Ta : (Nat → Int32)) (Fn : Int32) (Fa : (Nat → Int32)) (Ba : (Nat → Int32)) (Rn : Int32) (Ra : (Nat → Int32)) (Rb : (Nat → Int32)) (Rd : (Nat → Int32)) (Ua : (Nat → Int32)) (Wg : Int32) (Wz : Int32) (Ww : Int32) (Wr : Int32) (Mh : Int32) (Mn : Int32) (Mm : Int32) (Mt : (Nat → Int32)) (Mk : (Nat → Int32)) (Ms : (Nat → Int32)) (Me : (Nat → Int32)) (Mp : (Nat → Int32)) (Mw : (Nat → Int32)) (Ml : (Nat → Int32)) (My : (Nat → Int64)) (Oa : (Nat → Int64)) (Od : (Nat → UInt64)) (x5 : Int32) : Option Int32 :=
  gd (inb (x5 + (1 : Int32)) L) (
    gd (inb (x5 + (2 : Int32)) L) (
      gd (inb (x5 + (3 : Int32)) L) (
        gd (inb (x5 + (4 : Int32)) L) (
          bn (fL_compare N Tn Ta Oa (xs ((x5 + (1 : Int32))).toNatClampNeg) (xs ((x5 + (2 : Int32))).toNatClampNeg) (xs ((x5 + (3 : Int32))).toNatClampNeg) (xs ((x5 + (4 : Int32))).toNatClampNeg)) (fun v877 =>
            gd (inb (x5 + (1 : Int32)) L) (
              gd (inb (x5 + (2 : Int32)) L) (
                gd (inb (x5 + (3 : Int32)) L) (
                  gd (inb (x5 + (4 : Int32)) L) (
                    bn (fX9_compare N Mh Mn Mm Mt (xs ((x5 + (1 : Int32))).toNatClampNeg) (xs ((x5 + (2 : Int32))).toNatClampNeg) (xs ((x5 + (3 : Int32))).toNatClampNeg) (xs ((x5 + (4 : Int32))).toNatClampNeg)) (fun v907 =>
                      bn (fX9_thrown N v907.2 Mn Mm) (fun v913 =>
                        if v913 = v877.1 then
                          if v877.1 = 0 then
                            gd (inb (0 : Int32) 1) (
                              if (lg_cmp (v877.2 ((0 : Int32)).toNatClampNeg) ((v907.1).toInt64)) = 0 then
                                fL_law_J940 N L xs k28 Tn Ta Fn Fa Ba Rn Ra Rb Rd Ua Wg Wz Ww Wr v907.2 Mn Mm Mt Mk Ms Me Mp Mw Ml My v877.2 Od x5
                              else
                                fL_law_J938 N L xs Tn Ta Fn Fa Ba Rn Ra Rb Rd Ua Wg Wz Ww Wr v907.2 Mn Mm Mt Mk Ms Me Mp Mw Ml My v877.2 Od)
                          else
                            fL_law_J940 N L xs k28 Tn Ta Fn Fa Ba Rn Ra Rb Rd Ua Wg Wz Ww Wr v907.2 Mn Mm Mt Mk Ms Me Mp Mw Ml My v877.2 Od x5
                        else
                          fL_law_J921 N L xs Tn Ta Fn Fa Ba Rn Ra Rb Rd Ua Wg Wz Ww Wr v907.2 Mn Mm Mt Mk Ms Me Mp Mw Ml My v877.2 Od)))))))))))
def fL_law_J1008 (N : Nat) (L : Nat) (xs : Nat → Int32) (k28 : Int32 → (Nat → Int32) → Int32 → (Nat → Int32) → (Nat → Int32) → Int32 → (Nat → Int32) → (Nat → Int32) → (Nat → Int32) → (Nat → Int32) → Int32 → Int32 → Int32 → Int32 → Int32 → Int32 → Int32 → (Nat → Int32) → (Nat → Int32) → (Nat → Int32) → (Nat → Int32) → (Nat → Int32) → (Nat → Int32) → (Nat → Int32) → (Nat → Int64) → (Nat → Int64) → (Nat → UInt64) → Int32 → Option Int32) (Tn : Int32) (Ta : (Nat → Int32)) (Fn : Int32) (Fa : (Nat → Int32)) (Ba : (Nat → Int32)) (Rn : Int32) (Ra : (Nat → Int32)) (Rb : (Nat → Int32)) (Rd : (Nat → Int32)) (Ua : (Nat → Int32)) (Wg : Int32) (Wz : Int32) (Ww : Int32) (Wr : Int32) (Mh : Int32) (Mn : Int32) (Mm : Int32) (Mt : (Nat → Int32)) (Mk : (Nat → Int32)) (Ms : (Nat → Int32)) (Me : (Nat → Int32)) (Mp : (Nat → Int32)) (Mw : (Nat → Int32)) (Ml : (Nat → Int32)) (My : (Nat → Int64)) (Oa : (Nat → Int64)) (Od : (Nat → UInt64)) (x5 : Int32) : Option Int32 :=
  fL_law_J2831 N L xs k28 Tn Ta Fn Fa Ba Rn Ra Rb Rd Ua Wg Wz Ww Wr Mh Mn Mm Mt Mk Ms Me Mp Mw Ml My Oa Od x5
def fL_law_J943 (N : Nat) (L : Nat) (xs : Nat → Int32) (k28 : Int32 → (Nat → Int32) → Int32 → (Nat → Int32) → (Nat → Int32) → Int32 → (Nat → Int32) → (Nat → Int32) → (Nat → Int32) → (Nat → Int32) → Int32 → Int32 → Int32 → Int32 → Int32 → Int32 → Int32 → (Nat → Int32) → (Nat → Int32) → (Nat → Int32) → (Nat → Int32) → (Nat → Int32) → (Nat → Int32) → (Nat → Int32) → (Nat → Int64) → (Nat → Int64) → (Nat → UInt64) → Int32 → Option Int32) (Tn : Int32) (Ta : (Nat → Int32)) (Fn : Int32) (Fa : (Nat → Int32)) (Ba : (Nat → Int32)) (Rn : Int32) (Ra : (Nat → Int32)) (Rb : (Nat → Int32)) (Rd : (Nat → Int32)) (Ua : (Nat → Int32)) (Wg : Int32) (Wz : Int32) (Ww : Int32) (Wr : Int32) (Mh : Int32) (Mn : Int32) (Mm : Int32) (Mt : (Nat → Int32)) (Mk : (Nat → Int32)) (Ms : (Nat → Int32)) (Me : (Nat → Int32)) (Mp : (Nat → Int32)) (Mw : (Nat → Int32)) (Ml : (Nat → Int32)) (My : (Nat → Int64)) (Oa : (Nat → Int64)) (Od : (Nat → UInt64)) (x5 : Int32) : Option Int32 :=
  gd (inb (x5 + (1 : Int32)) L) (
    gd (inb (x5 + (2 : Int32)) L) (
      bn (fL_commonPrefix N Tn Ta Oa (xs ((x5 + (1 : Int32))).toNatClampNeg) (xs ((x5 + (2 : Int32))).toNatClampNeg)) (fun v957 =>
        gd (inb (x5 + (1 : Int32)) L) (
          gd (inb (x5 + (2 : Int32)) L) (
            bn (fX9_commonPrefix N Mh Mn Mm Mt (xs ((x5 + (1 : Int32))).toNatClampNeg) (xs ((x5 + (2 : Int32))).toNatClampNeg)) (fun v975 =>
              bn (fX9_thrown N v975.2 Mn Mm) (fun v981 =>
                if v981 = v957.1 then
                  if v957.1 = 0 then
                    gd (inb (0 : Int32) 1) (
                      if (lg_cmp (v957.2 ((0 : Int32)).toNatClampNeg) ((v975.1).toInt64)) = 0 then
                        fL_law_J1008 N L xs k28 Tn Ta Fn Fa Ba Rn Ra Rb Rd Ua Wg Wz Ww Wr v975.2 Mn Mm Mt Mk Ms Me Mp Mw Ml My v957.2 Od x5
                      else
                        fL_law_J1006 N L xs Tn Ta Fn Fa Ba Rn Ra Rb Rd Ua Wg Wz Ww Wr v975.2 Mn Mm Mt Mk Ms Me Mp Mw Ml My v957.2 Od)
                  else
                    fL_law_J1008 N L xs k28 Tn Ta Fn Fa Ba Rn Ra Rb Rd Ua Wg Wz Ww Wr v975.2 Mn Mm Mt Mk Ms Me Mp Mw Ml My v957.2 Od x5
                else
                  fL_law_J989 N L xs Tn Ta Fn Fa Ba Rn Ra Rb Rd Ua Wg Wz Ww Wr v975.2 Mn Mm Mt Mk Ms Me Mp Mw Ml My v957.2 Od)))))))
def fL_law_J1083 (N : Nat) (L : Nat) (xs : Nat → Int32) (k28 : Int32 → (Nat → Int32) → Int32 → (Nat → Int32) → (Nat → Int32) → Int32 → (Nat → Int32) → (Nat → Int32) → (Nat → Int32) → (Nat → Int32) → Int32 → Int32 → Int32 → Int32 → Int32 → Int32 → Int32 → (Nat → Int32) → (Nat → Int32) → (Nat → Int32) → (Nat → Int32) → (Nat → Int32) → (Nat → Int32) → (Nat → Int32) → (Nat → Int64) → (Nat → Int64) → (Nat → UInt64) → Int32 → Option Int32) (Tn : Int32) (Ta : (Nat → Int32)) (Fn : Int32) (Fa : (Nat → Int32)) (Ba : (Nat → Int32)) (Rn : Int32) (Ra : (Nat → Int32)) (Rb : (Nat → Int32)) (Rd : (Nat → Int32)) (Ua : (Nat → Int32)) (Wg : Int32) (Wz : Int32) (Ww : Int32) (Wr : Int32) (Mh : Int32) (Mn : Int32) (Mm : Int32) (Mt : (Nat → Int32)) (Mk : (Nat → Int32)) (Ms : (Nat → Int32)) (Me : (Nat → Int32)) (Mp : (Nat → Int32)) (Mw : (Nat → Int32)) (Ml : (Nat → Int32)) (My : (Nat → Int64)) (Oa : (Nat → Int64)) (Od : (Nat → UInt64)) (x5 : Int32) : Option Int32 :=
  fL_law_J2831 N L xs k28 Tn Ta Fn Fa Ba Rn Ra Rb Rd Ua Wg Wz Ww Wr Mh Mn Mm Mt Mk Ms Me Mp Mw Ml My Oa Od x5
def fL_law_J1077 (N : Nat) (L : Nat) (xs : Nat → Int32) (k28 : Int32 → (Nat → Int32) → Int32 → (Nat → Int32) → (Nat → Int32) → Int32 → (Nat → Int32) → (Nat → Int32) → (Nat → Int32) → (Nat → Int32) → Int32 → Int32 → Int32 → Int32 → Int32 → Int32 → Int32 → (Nat → Int32) → (Nat → Int32) → (Nat → Int32) → (Nat → Int32) → (Nat → Int32) → (Nat → Int32) → (Nat → Int32) → (Nat → Int64) → (Nat → Int64) → (Nat → UInt64) → Int32 → Option Int32) (Tn : Int32) (Ta : (Nat → Int32)) (Fn : Int32) (Fa : (Nat → Int32)) (Ba : (Nat → Int32)) (Rn : Int32) (Ra : (Nat → Int32)) (Rb : (Nat → Int32)) (Rd : (Nat → Int32)) (Ua : (Nat → Int32)) (Wg : Int32) (Wz : Int32) (Ww : Int32) (Wr : Int32) (Mh : Int32) (Mn : Int32) (Mm : Int32) (Mt : (Nat → Int32)) (Mk : (Nat → Int32)) (Ms : (Nat → Int32)) (Me : (Nat → Int32)) (Mp : (Nat → Int32)) (Mw : (Nat → Int32)) (Ml : (Nat → Int32)) (My : (Nat → Int64)) (Oa : (Nat → Int64)) (Od : (Nat → UInt64)) (x5 : Int32) (y0 : Int64) (y1 : Int64) : Option Int32 :=
  if (lg_cmp y0 y1) = 0 then
    fL_law_J1083 N L xs k28 Tn Ta Fn Fa Ba Rn Ra Rb Rd Ua Wg Wz Ww Wr Mh Mn Mm Mt Mk Ms Me Mp Mw Ml My Oa Od x5
  else
    fL_law_J1081 N L xs Tn Ta Fn Fa Ba Rn Ra Rb Rd Ua Wg Wz Ww Wr Mh Mn Mm Mt Mk Ms Me Mp Mw Ml My Oa Od
def fL_law_J1011 (N : Nat) (L : Nat) (xs : Nat → Int32) (k28 : Int32 → (Nat → Int32) → Int32 → (Nat → Int32) → (Nat → Int32) → Int32 → (Nat → Int32) → (Nat → Int32) → (Nat → Int32) → (Nat → Int32) → Int32 → Int32 → Int32 → Int32 → Int32 → Int32 → Int32 → (Nat → Int32) → (Nat → Int32) → (Nat → Int32) → (Nat → Int32) → (Nat → Int32) → (Nat → Int32) → (Nat → Int32) → (Nat → Int64) → (Nat → Int64) → (Nat → UInt64) → Int32 → Option Int32) (Tn : Int32) (Ta : (Nat → Int32)) (Fn : Int32) (Fa : (Nat → Int32)) (Ba : (Nat → Int32)) (Rn : Int32) (Ra : (Nat → Int32)) (Rb : (Nat → Int32)) (Rd : (Nat → Int32)) (Ua : (Nat → Int32)) (Wg : Int32) (Wz : Int32) (Ww : Int32) (Wr : Int32) (Mh : Int32) (Mn : Int32) (Mm : Int32) (Mt : (Nat → Int32)) (Mk : (Nat → Int32)) (Ms : (Nat → Int32)) (Me : (Nat → Int32)) (Mp : (Nat → Int32)) (Mw : (Nat → Int32)) (Ml : (Nat → Int32)) (My : (Nat → Int64)) (Oa : (Nat → Int64)) (Od : (Nat → UInt64)) (x5 : Int32) : Option Int32 :=
  gd (inb (x5 + (1 : Int32)) L) (
    gd (inb (x5 + (2 : Int32)) L) (
      bn (fL_isLyndon N Tn Ta Oa (xs ((x5 + (1 : Int32))).toNatClampNeg) (xs ((x5 + (2 : Int32))).toNatClampNeg)) (fun v1025 =>
        gd (inb (x5 + (1 : Int32)) L) (
          gd (inb (x5 + (2 : Int32)) L) (
            bn (fX9_isLyndon N Mh Mn Mm Mt (xs ((x5 + (1 : Int32))).toNatClampNeg) (xs ((x5 + (2 : Int32))).toNatClampNeg)) (fun v1043 =>
              bn (fX9_thrown N v1043.2 Mn Mm) (fun v1049 =>
                if v1049 = v1025.1 then
                  if v1025.1 = 0 then
                    gd (inb (0 : Int32) 1) (
                      if v1043.1 = 0 then
                        fL_law_J1077 N L xs k28 Tn Ta Fn Fa Ba Rn Ra Rb Rd Ua Wg Wz Ww Wr v1043.2 Mn Mm Mt Mk Ms Me Mp Mw Ml My v1025.2 Od x5 (v1025.2 ((0 : Int32)).toNatClampNeg) (0 : Int64)
                      else
                        fL_law_J1077 N L xs k28 Tn Ta Fn Fa Ba Rn Ra Rb Rd Ua Wg Wz Ww Wr v1043.2 Mn Mm Mt Mk Ms Me Mp Mw Ml My v1025.2 Od x5 (v1025.2 ((0 : Int32)).toNatClampNeg) (1 : Int64))
                  else
                    fL_law_J1083 N L xs k28 Tn Ta Fn Fa Ba Rn Ra Rb Rd Ua Wg Wz Ww Wr v1043.2 Mn Mm Mt Mk Ms Me Mp Mw Ml My v1025.2 Od x5
                else
                  fL_law_J1057 N L xs Tn Ta Fn Fa Ba Rn Ra Rb Rd Ua Wg Wz Ww Wr v1043.2 Mn Mm Mt Mk Ms Me Mp Mw Ml My v1025.2 Od)))))))
def fL_law_J1086 (N : Nat) (L : Nat) (xs : Nat → Int32) (k28 : Int32 → (Nat → Int32) → Int32 → (Nat → Int32) → (Nat → Int32) → Int32 → (Nat → Int32) → (Nat → Int32) → (Nat → Int32) → (Nat → Int32) → Int32 → Int32 → Int32 → Int32 → Int32 → Int32 → Int32 → (Nat → Int32) → (Nat → Int32) → (Nat → Int32) → (Nat → Int32) → (Nat → Int32) → (Nat → Int32) → (Nat → Int32) → (Nat → Int64) → (Nat → Int64) → (Nat → UInt64) → Int32 → Option Int32) (Tn : Int32) (Ta : (Nat → Int32)) (Fn : Int32) (Fa : (Nat → Int32)) (Ba : (Nat → Int32)) (Rn : Int32) (Ra : (Nat → Int32)) (Rb : (Nat → Int32)) (Rd : (Nat → Int32)) (Ua : (Nat → Int32)) (Wg : Int32) (Wz : Int32) (Ww : Int32) (Wr : Int32) (Mh : Int32) (Mn : Int32) (Mm : Int32) (Mt : (Nat → Int32)) (Mk : (Nat → Int32)) (Ms : (Nat → Int32)) (Me : (Nat → Int32)) (Mp : (Nat → Int32)) (Mw : (Nat → Int32)) (Ml : (Nat → Int32)) (My : (Nat → Int64)) (Oa : (Nat → Int64)) (Od : (Nat → UInt64)) (x5 : Int32) : Option Int32 :=
  bn (fX8_factors N Tn Ta Fn Fa) (fun v1087 =>
    bn (fX9_factors N Mh Mn Mm Mt) (fun v1091 =>
      if v1087.1 = v1091.1 then
        fL_law_J2831 N L xs k28 Tn Ta v1087.2.1 v1087.2.2 Ba Rn Ra Rb Rd Ua Wg Wz Ww Wr v1091.2 Mn Mm Mt Mk Ms Me Mp Mw Ml My Oa Od x5
      else
        fL_law_J1097 N L xs Tn Ta v1087.2.1 v1087.2.2 Ba Rn Ra Rb Rd Ua Wg Wz Ww Wr v1091.2 Mn Mm Mt Mk Ms Me Mp Mw Ml My Oa Od))
def fL_law_J1152 (N : Nat) (L : Nat) (xs : Nat → Int32) (k28 : Int32 → (Nat → Int32) → Int32 → (Nat → Int32) → (Nat → Int32) → Int32 → (Nat → Int32) → (Nat → Int32) → (Nat → Int32) → (Nat → Int32) → Int32 → Int32 → Int32 → Int32 → Int32 → Int32 → Int32 → (Nat → Int32) → (Nat → Int32) → (Nat → Int32) → (Nat → Int32) → (Nat → Int32) → (Nat → Int32) → (Nat → Int32) → (Nat → Int64) → (Nat → Int64) → (Nat → UInt64) → Int32 → Option Int32) (Tn : Int32) (Ta : (Nat → Int32)) (Fn : Int32) (Fa : (Nat → Int32)) (Ba : (Nat → Int32)) (Rn : Int32) (Ra : (Nat → Int32)) (Rb : (Nat → Int32)) (Rd : (Nat → Int32)) (Ua : (Nat → Int32)) (Wg : Int32) (Wz : Int32) (Ww : Int32) (Wr : Int32) (Mh : Int32) (Mn : Int32) (Mm : Int32) (Mt : (Nat → Int32)) (Mk : (Nat → Int32)) (Ms : (Nat → Int32)) (Me : (Nat → Int32)) (Mp : (Nat → Int32)) (Mw : (Nat → Int32)) (Ml : (Nat → Int32)) (My : (Nat → Int64)) (Oa : (Nat → Int64)) (Od : (Nat → UInt64)) (x5 : Int32) : Option Int32 :=
  fL_law_J2831 N L xs k28 Tn Ta Fn Fa Ba Rn Ra Rb Rd Ua Wg Wz Ww Wr Mh Mn Mm Mt Mk Ms Me Mp Mw Ml My Oa Od x5
def fL_law_J1099 (N : Nat) (L : Nat) (xs : Nat → Int32) (k28 : Int32 → (Nat → Int32) → Int32 → (Nat → Int32) → (Nat → Int32) → Int32 → (Nat → Int32) → (Nat → Int32) → (Nat → Int32) → (Nat → Int32) → Int32 → Int32 → Int32 → Int32 → Int32 → Int32 → Int32 → (Nat → Int32) → (Nat → Int32) → (Nat → Int32) → (Nat → Int32) → (Nat → Int32) → (Nat → Int32) → (Nat → Int32) → (Nat → Int64) → (Nat → Int64) → (Nat → UInt64) → Int32 → Option Int32) (Tn : Int32) (Ta : (Nat → Int32)) (Fn : Int32) (Fa : (Nat → Int32)) (Ba : (Nat → Int32)) (Rn : Int32) (Ra : (Nat → Int32)) (Rb : (Nat → Int32)) (Rd : (Nat → Int32)) (Ua : (Nat → Int32)) (Wg : Int32) (Wz : Int32) (Ww : Int32) (Wr : Int32) (Mh : Int32) (Mn : Int32) (Mm : Int32) (Mt : (Nat → Int32)) (Mk : (Nat → Int32)) (Ms : (Nat → Int32)) (Me : (Nat → Int32)) (Mp : (Nat → Int32)) (Mw : (Nat → Int32)) (Ml : (Nat → Int32)) (My : (Nat → Int64)) (Oa : (Nat → Int64)) (Od : (Nat → UInt64)) (x5 : Int32) : Option Int32 :=
  gd (inb (x5 + (1 : Int32)) L) (
    bn (fL_factorStart N Tn Ta Fn Fa Oa (xs ((x5 + (1 : Int32))).toNatClampNeg)) (fun v1107 =>
      gd (inb (x5 + (1 : Int32)) L) (
        bn (fX9_factorStart N Mh Mn Mm Mt (xs ((x5 + (1 : Int32))).toNatClampNeg)) (fun v1119 =>
          bn (fX9_thrown N v1119.2 Mn Mm) (fun v1125 =>
            if v1125 = v1107.1 then
              if v1107.1 = 0 then
                gd (inb (0 : Int32) 1) (
                  if (lg_cmp (v1107.2.2.2 ((0 : Int32)).toNatClampNeg) ((v1119.1).toInt64)) = 0 then
                    fL_law_J1152 N L xs k28 Tn Ta v1107.2.1 v1107.2.2.1 Ba Rn Ra Rb Rd Ua Wg Wz Ww Wr v1119.2 Mn Mm Mt Mk Ms Me Mp Mw Ml My v1107.2.2.2 Od x5
                  else
                    fL_law_J1150 N L xs Tn Ta v1107.2.1 v1107.2.2.1 Ba Rn Ra Rb Rd Ua Wg Wz Ww Wr v1119.2 Mn Mm Mt Mk Ms Me Mp Mw Ml My v1107.2.2.2 Od)
              else
                fL_law_J1152 N L xs k28 Tn Ta v1107.2.1 v1107.2.2.1 Ba Rn Ra Rb Rd Ua Wg Wz Ww Wr v1119.2 Mn Mm Mt Mk Ms Me Mp Mw Ml My v1107.2.2.2 Od x5
            else
              fL_law_J1133 N L xs Tn Ta v1107.2.1 v1107.2.2.1 Ba Rn Ra Rb Rd Ua Wg Wz Ww Wr v1119.2 Mn Mm Mt Mk Ms Me Mp Mw Ml My v1107.2.2.2 Od)))))
def fL_law_J1208 (N : Nat) (L : Nat) (xs : Nat → Int32) (k28 : Int32 → (Nat → Int32) → Int32 → (Nat → Int32) → (Nat → Int32) → Int32 → (Nat → Int32) → (Nat → Int32) → (Nat → Int32) → (Nat → Int32) → Int32 → Int32 → Int32 → Int32 → Int32 → Int32 → Int32 → (Nat → Int32) → (Nat → Int32) → (Nat → Int32) → (Nat → Int32) → (Nat → Int32) → (Nat → Int32) → (Nat → Int32) → (Nat → Int64) → (Nat → Int64) → (Nat → UInt64) → Int32 → Option Int32) (Tn : Int32) (Ta : (Nat → Int32)) (Fn : Int32) (Fa : (Nat → Int32)) (Ba : (Nat → Int32)) (Rn : Int32) (Ra : (Nat → Int32)) (Rb : (Nat → Int32)) (Rd : (Nat → Int32)) (Ua : (Nat → Int32)) (Wg : Int32) (Wz : Int32) (Ww : Int32) (Wr : Int32) (Mh : Int32) (Mn : Int32) (Mm : Int32) (Mt : (Nat → Int32)) (Mk : (Nat → Int32)) (Ms : (Nat → Int32)) (Me : (Nat → Int32)) (Mp : (Nat → Int32)) (Mw : (Nat → Int32)) (Ml : (Nat → Int32)) (My : (Nat → Int64)) (Oa : (Nat → Int64)) (Od : (Nat → UInt64)) (x5 : Int32) : Option Int32 :=
  fL_law_J2831 N L xs k28 Tn Ta Fn Fa Ba Rn Ra Rb Rd Ua Wg Wz Ww Wr Mh Mn Mm Mt Mk Ms Me Mp Mw Ml My Oa Od x5
def fL_law_J1155 (N : Nat) (L : Nat) (xs : Nat → Int32) (k28 : Int32 → (Nat → Int32) → Int32 → (Nat → Int32) → (Nat → Int32) → Int32 → (Nat → Int32) → (Nat → Int32) → (Nat → Int32) → (Nat → Int32) → Int32 → Int32 → Int32 → Int32 → Int32 → Int32 → Int32 → (Nat → Int32) → (Nat → Int32) → (Nat → Int32) → (Nat → Int32) → (Nat → Int32) → (Nat → Int32) → (Nat → Int32) → (Nat → Int64) → (Nat → Int64) → (Nat → UInt64) → Int32 → Option Int32) (Tn : Int32) (Ta : (Nat → Int32)) (Fn : Int32) (Fa : (Nat → Int32)) (Ba : (Nat → Int32)) (Rn : Int32) (Ra : (Nat → Int32)) (Rb : (Nat → Int32)) (Rd : (Nat → Int32)) (Ua : (Nat → Int32)) (Wg : Int32) (Wz : Int32) (Ww : Int32) (Wr : Int32) (Mh : Int32) (Mn : Int32) (Mm : Int32) (Mt : (Nat → Int32)) (Mk : (Nat → Int32)) (Ms : (Nat → Int32)) (Me : (Nat → Int32)) (Mp : (Nat → Int32)) (Mw : (Nat → Int32)) (Ml : (Nat → Int32)) (My : (Nat → Int64)) (Oa : (Nat → Int64)) (Od : (Nat → UInt64)) (x5 : Int32) : Option Int32 :=
  gd (inb (x5 + (1 : Int32)) L) (
    bn (fL_factorLength N Tn Ta Fn Fa Oa (xs ((x5 + (1 : Int32))).toNatClampNeg)) (fun v1163 =>
      gd (inb (x5 + (1 : Int32)) L) (
        bn (fX9_factorLength N Mh Mn Mm Mt (xs ((x5 + (1 : Int32))).toNatClampNeg)) (fun v1175 =>
          bn (fX9_thrown N v1175.2 Mn Mm) (fun v1181 =>
            if v1181 = v1163.1 then
              if v1163.1 = 0 then
                gd (inb (0 : Int32) 1) (
                  if (lg_cmp (v1163.2.2.2 ((0 : Int32)).toNatClampNeg) ((v1175.1).toInt64)) = 0 then
                    fL_law_J1208 N L xs k28 Tn Ta v1163.2.1 v1163.2.2.1 Ba Rn Ra Rb Rd Ua Wg Wz Ww Wr v1175.2 Mn Mm Mt Mk Ms Me Mp Mw Ml My v1163.2.2.2 Od x5
                  else
                    fL_law_J1206 N L xs Tn Ta v1163.2.1 v1163.2.2.1 Ba Rn Ra Rb Rd Ua Wg Wz Ww Wr v1175.2 Mn Mm Mt Mk Ms Me Mp Mw Ml My v1163.2.2.2 Od)
              else
                fL_law_J1208 N L xs k28 Tn Ta v1163.2.1 v1163.2.2.1 Ba Rn Ra Rb Rd Ua Wg Wz Ww Wr v1175.2 Mn Mm Mt Mk Ms Me Mp Mw Ml My v1163.2.2.2 Od x5
            else
              fL_law_J1189 N L xs Tn Ta v1163.2.1 v1163.2.2.1 Ba Rn Ra Rb Rd Ua Wg Wz Ww Wr v1175.2 Mn Mm Mt Mk Ms Me Mp Mw Ml My v1163.2.2.2 Od)))))
def fL_law_J1264 (N : Nat) (L : Nat) (xs : Nat → Int32) (k28 : Int32 → (Nat → Int32) → Int32 → (Nat → Int32) → (Nat → Int32) → Int32 → (Nat → Int32) → (Nat → Int32) → (Nat → Int32) → (Nat → Int32) → Int32 → Int32 → Int32 → Int32 → Int32 → Int32 → Int32 → (Nat → Int32) → (Nat → Int32) → (Nat → Int32) → (Nat → Int32) → (Nat → Int32) → (Nat → Int32) → (Nat → Int32) → (Nat → Int64) → (Nat → Int64) → (Nat → UInt64) → Int32 → Option Int32) (Tn : Int32) (Ta : (Nat → Int32)) (Fn : Int32) (Fa : (Nat → Int32)) (Ba : (Nat → Int32)) (Rn : Int32) (Ra : (Nat → Int32)) (Rb : (Nat → Int32)) (Rd : (Nat → Int32)) (Ua : (Nat → Int32)) (Wg : Int32) (Wz : Int32) (Ww : Int32) (Wr : Int32) (Mh : Int32) (Mn : Int32) (Mm : Int32) (Mt : (Nat → Int32)) (Mk : (Nat → Int32)) (Ms : (Nat → Int32)) (Me : (Nat → Int32)) (Mp : (Nat → Int32)) (Mw : (Nat → Int32)) (Ml : (Nat → Int32)) (My : (Nat → Int64)) (Oa : (Nat → Int64)) (Od : (Nat → UInt64)) (x5 : Int32) : Option Int32 :=
  fL_law_J2831 N L xs k28 Tn Ta Fn Fa Ba Rn Ra Rb Rd Ua Wg Wz Ww Wr Mh Mn Mm Mt Mk Ms Me Mp Mw Ml My Oa Od x5
def fL_law_J1211 (N : Nat) (L : Nat) (xs : Nat → Int32) (k28 : Int32 → (Nat → Int32) → Int32 → (Nat → Int32) → (Nat → Int32) → Int32 → (Nat → Int32) → (Nat → Int32) → (Nat → Int32) → (Nat → Int32) → Int32 → Int32 → Int32 → Int32 → Int32 → Int32 → Int32 → (Nat → Int32) → (Nat → Int32) → (Nat → Int32) → (Nat → Int32) → (Nat → Int32) → (Nat → Int32) → (Nat → Int32) → (Nat → Int64) → (Nat → Int64) → (Nat → UInt64) → Int32 → Option Int32) (Tn : Int32) (Ta : (Nat → Int32)) (Fn : Int32) (Fa : (Nat → Int32)) (Ba : (Nat → Int32)) (Rn : Int32) (Ra : (Nat → Int32)) (Rb : (Nat → Int32)) (Rd : (Nat → Int32)) (Ua : (Nat → Int32)) (Wg : Int32) (Wz : Int32) (Ww : Int32) (Wr : Int32) (Mh : Int32) (Mn : Int32) (Mm : Int32) (Mt : (Nat → Int32)) (Mk : (Nat → Int32)) (Ms : (Nat → Int32)) (Me : (Nat → Int32)) (Mp : (Nat → Int32)) (Mw : (Nat → Int32)) (Ml : (Nat → Int32)) (My : (Nat → Int64)) (Oa : (Nat → Int64)) (Od : (Nat → UInt64)) (x5 : Int32) : Option Int32 :=
  gd (inb (x5 + (1 : Int32)) L) (
    bn (fL_factorOver N Tn Ta Fn Fa Oa (xs ((x5 + (1 : Int32))).toNatClampNeg)) (fun v1219 =>
      gd (inb (x5 + (1 : Int32)) L) (
        bn (fX9_factorOver N Mh Mn Mm Mt (xs ((x5 + (1 : Int32))).toNatClampNeg)) (fun v1231 =>
          bn (fX9_thrown N v1231.2 Mn Mm) (fun v1237 =>
            if v1237 = v1219.1 then
              if v1219.1 = 0 then
                gd (inb (0 : Int32) 1) (
                  if (lg_cmp (v1219.2.2.2 ((0 : Int32)).toNatClampNeg) ((v1231.1).toInt64)) = 0 then
                    fL_law_J1264 N L xs k28 Tn Ta v1219.2.1 v1219.2.2.1 Ba Rn Ra Rb Rd Ua Wg Wz Ww Wr v1231.2 Mn Mm Mt Mk Ms Me Mp Mw Ml My v1219.2.2.2 Od x5
                  else
                    fL_law_J1262 N L xs Tn Ta v1219.2.1 v1219.2.2.1 Ba Rn Ra Rb Rd Ua Wg Wz Ww Wr v1231.2 Mn Mm Mt Mk Ms Me Mp Mw Ml My v1219.2.2.2 Od)
              else
                fL_law_J1264 N L xs k28 Tn Ta v1219.2.1 v1219.2.2.1 Ba Rn Ra Rb Rd Ua Wg Wz Ww Wr v1231.2 Mn Mm Mt Mk Ms Me Mp Mw Ml My v1219.2.2.2 Od x5
            else
              fL_law_J1245 N L xs Tn Ta v1219.2.1 v1219.2.2.1 Ba Rn Ra Rb Rd Ua Wg Wz Ww Wr v1231.2 Mn Mm Mt Mk Ms Me Mp Mw Ml My v1219.2.2.2 Od)))))
def fL_law_J1348 (N : Nat) (L : Nat) (xs : Nat → Int32) (k28 : Int32 → (Nat → Int32) → Int32 → (Nat → Int32) → (Nat → Int32) → Int32 → (Nat → Int32) → (Nat → Int32) → (Nat → Int32) → (Nat → Int32) → Int32 → Int32 → Int32 → Int32 → Int32 → Int32 → Int32 → (Nat → Int32) → (Nat → Int32) → (Nat → Int32) → (Nat → Int32) → (Nat → Int32) → (Nat → Int32) → (Nat → Int32) → (Nat → Int64) → (Nat → Int64) → (Nat → UInt64) → Int32 → Option Int32) (Tn : Int32) (Ta : (Nat → Int32)) (Fn : Int32) (Fa : (Nat → Int32)) (Ba : (Nat → Int32)) (Rn : Int32) (Ra : (Nat → Int32)) (Rb : (Nat → Int32)) (Rd : (Nat → Int32)) (Ua : (Nat → Int32)) (Wg : Int32) (Wz : Int32) (Ww : Int32) (Wr : Int32) (Mh : Int32) (Mn : Int32) (Mm : Int32) (Mt : (Nat → Int32)) (Mk : (Nat → Int32)) (Ms : (Nat → Int32)) (Me : (Nat → Int32)) (Mp : (Nat → Int32)) (Mw : (Nat → Int32)) (Ml : (Nat → Int32)) (My : (Nat → Int64)) (Oa : (Nat → Int64)) (Od : (Nat → UInt64)) (x5 : Int32) : Option Int32 :=
  fL_law_J2831 N L xs k28 Tn Ta Fn Fa Ba Rn Ra Rb Rd Ua Wg Wz Ww Wr Mh Mn Mm Mt Mk Ms Me Mp Mw Ml My Oa Od x5
def fL_law_J1315 (N : Nat) (L : Nat) (xs : Nat → Int32) (k28 : Int32 → (Nat → Int32) → Int32 → (Nat → Int32) → (Nat → Int32) → Int32 → (Nat → Int32) → (Nat → Int32) → (Nat → Int32) → (Nat → Int32) → Int32 → Int32 → Int32 → Int32 → Int32 → Int32 → Int32 → (Nat → Int32) → (Nat → Int32) → (Nat → Int32) → (Nat → Int32) → (Nat → Int32) → (Nat → Int32) → (Nat → Int32) → (Nat → Int64) → (Nat → Int64) → (Nat → UInt64) → Int32 → Option Int32) (Tn : Int32) (Ta : (Nat → Int32)) (Fn : Int32) (Fa : (Nat → Int32)) (Ba : (Nat → Int32)) (Rn : Int32) (Ra : (Nat → Int32)) (Rb : (Nat → Int32)) (Rd : (Nat → Int32)) (Ua : (Nat → Int32)) (Wg : Int32) (Wz : Int32) (Ww : Int32) (Wr : Int32) (Mh : Int32) (Mn : Int32) (Mm : Int32) (Mt : (Nat → Int32)) (Mk : (Nat → Int32)) (Ms : (Nat → Int32)) (Me : (Nat → Int32)) (Mp : (Nat → Int32)) (Mw : (Nat → Int32)) (Ml : (Nat → Int32)) (My : (Nat → Int64)) (Oa : (Nat → Int64)) (Od : (Nat → UInt64)) (x5 : Int32) (x6 : Int32) (y1 : Int32) (y2 : Int32) : Option Int32 :=
  bn (fX9_longestLyndon N Mh Mn Mm Mt y1 y2) (fun v1315 =>
    bn (fX9_thrown N v1315.2 Mn Mm) (fun v1321 =>
      if v1321 = x6 then
        if x6 = 0 then
          gd (inb (0 : Int32) 1) (
            if (lg_cmp (Oa ((0 : Int32)).toNatClampNeg) ((v1315.1).toInt64)) = 0 then
              fL_law_J1348 N L xs k28 Tn Ta Fn Fa Ba Rn Ra Rb Rd Ua Wg Wz Ww Wr v1315.2 Mn Mm Mt Mk Ms Me Mp Mw Ml My Oa Od x5
            else
              fL_law_J1346 N L xs Tn Ta Fn Fa Ba Rn Ra Rb Rd Ua Wg Wz Ww Wr v1315.2 Mn Mm Mt Mk Ms Me Mp Mw Ml My Oa Od)
        else
          fL_law_J1348 N L xs k28 Tn Ta Fn Fa Ba Rn Ra Rb Rd Ua Wg Wz Ww Wr v1315.2 Mn Mm Mt Mk Ms Me Mp Mw Ml My Oa Od x5
      else
        fL_law_J1329 N L xs Tn Ta Fn Fa Ba Rn Ra Rb Rd Ua Wg Wz Ww Wr v1315.2 Mn Mm Mt Mk Ms Me Mp Mw Ml My Oa Od))
def fL_law_J1288 (N : Nat) (L : Nat) (xs : Nat → Int32) (k28 : Int32 → (Nat → Int32) → Int32 → (Nat → Int32) → (Nat → Int32) → Int32 → (Nat → Int32) → (Nat → Int32) → (Nat → Int32) → (Nat → Int32) → Int32 → Int32 → Int32 → Int32 → Int32 → Int32 → Int32 → (Nat → Int32) → (Nat → Int32) → (Nat → Int32) → (Nat → Int32) → (Nat → Int32) → (Nat → Int32) → (Nat → Int32) → (Nat → Int64) → (Nat → Int64) → (Nat → UInt64) → Int32 → Option Int32) (Tn : Int32) (Ta : (Nat → Int32)) (Fn : Int32) (Fa : (Nat → Int32)) (Ba : (Nat → Int32)) (Rn : Int32) (Ra : (Nat → Int32)) (Rb : (Nat → Int32)) (Rd : (Nat → Int32)) (Ua : (Nat → Int32)) (Wg : Int32) (Wz : Int32) (Ww : Int32) (Wr : Int32) (Mh : Int32) (Mn : Int32) (Mm : Int32) (Mt : (Nat → Int32)) (Mk : (Nat → Int32)) (Ms : (Nat → Int32)) (Me : (Nat → Int32)) (Mp : (Nat → Int32)) (Mw : (Nat → Int32)) (Ml : (Nat → Int32)) (My : (Nat → Int64)) (Oa : (Nat → Int64)) (Od : (Nat → UInt64)) (x5 : Int32) (y1 : Int32) (y2 : Int32) : Option Int32 :=
  bn (fL_longestLyndon N Tn Ta Oa y1 y2) (fun v1289 =>
    gd (inb (x5 + (1 : Int32)) L) (
      gd (inb (x5 + (2 : Int32)) L) (
        if (xs ((x5 + (2 : Int32))).toNatClampNeg) = 0 then
          fL_law_J1315 N L xs k28 Tn Ta Fn Fa Ba Rn Ra Rb Rd Ua Wg Wz Ww Wr Mh Mn Mm Mt Mk Ms Me Mp Mw Ml My v1289.2 Od x5 v1289.1 (xs ((x5 + (1 : Int32))).toNatClampNeg) (0 : Int32)
        else
          fL_law_J1315 N L xs k28 Tn Ta Fn Fa Ba Rn Ra Rb Rd Ua Wg Wz Ww Wr Mh Mn Mm Mt Mk Ms Me Mp Mw Ml My v1289.2 Od x5 v1289.1 (xs ((x5 + (1 : Int32))).toNatClampNeg) (1 : Int32))))
def fL_law_J1267 (N : Nat) (L : Nat) (xs : Nat → Int32) (k28 : Int32 → (Nat → Int32) → Int32 → (Nat → Int32) → (Nat → Int32) → Int32 → (Nat → Int32) → (Nat → Int32) → (Nat → Int32) → (Nat → Int32) → Int32 → Int32 → Int32 → Int32 → Int32 → Int32 → Int32 → (Nat → Int32) → (Nat → Int32) → (Nat → Int32) → (Nat → Int32) → (Nat → Int32) → (Nat → Int32) → (Nat → Int32) → (Nat → Int64) → (Nat → Int64) → (Nat → UInt64) → Int32 → Option Int32) (Tn : Int32) (Ta : (Nat → Int32)) (Fn : Int32) (Fa : (Nat → Int32)) (Ba : (Nat → Int32)) (Rn : Int32) (Ra : (Nat → Int32)) (Rb : (Nat → Int32)) (Rd : (Nat → Int32)) (Ua : (Nat → Int32)) (Wg : Int32) (Wz : Int32) (Ww : Int32) (Wr : Int32) (Mh : Int32) (Mn : Int32) (Mm : Int32) (Mt : (Nat → Int32)) (Mk : (Nat → Int32)) (Ms : (Nat → Int32)) (Me : (Nat → Int32)) (Mp : (Nat → Int32)) (Mw : (Nat → Int32)) (Ml : (Nat → Int32)) (My : (Nat → Int64)) (Oa : (Nat → Int64)) (Od : (Nat → UInt64)) (x5 : Int32) : Option Int32 :=
  gd (inb (x5 + (1 : Int32)) L) (
    gd (inb (x5 + (2 : Int32)) L) (
      if (xs ((x5 + (2 : Int32))).toNatClampNeg) = 0 then
        fL_law_J1288 N L xs k28 Tn Ta Fn Fa Ba Rn Ra Rb Rd Ua Wg Wz Ww Wr Mh Mn Mm Mt Mk Ms Me Mp Mw Ml My Oa Od x5 (xs ((x5 + (1 : Int32))).toNatClampNeg) (0 : Int32)
      else
        fL_law_J1288 N L xs k28 Tn Ta Fn Fa Ba Rn Ra Rb Rd Ua Wg Wz Ww Wr Mh Mn Mm Mt Mk Ms Me Mp Mw Ml My Oa Od x5 (xs ((x5 + (1 : Int32))).toNatClampNeg) (1 : Int32)))
def fL_law_J1416 (N : Nat) (L : Nat) (xs : Nat → Int32) (k28 : Int32 → (Nat → Int32) → Int32 → (Nat → Int32) → (Nat → Int32) → Int32 → (Nat → Int32) → (Nat → Int32) → (Nat → Int32) → (Nat → Int32) → Int32 → Int32 → Int32 → Int32 → Int32 → Int32 → Int32 → (Nat → Int32) → (Nat → Int32) → (Nat → Int32) → (Nat → Int32) → (Nat → Int32) → (Nat → Int32) → (Nat → Int32) → (Nat → Int64) → (Nat → Int64) → (Nat → UInt64) → Int32 → Option Int32) (Tn : Int32) (Ta : (Nat → Int32)) (Fn : Int32) (Fa : (Nat → Int32)) (Ba : (Nat → Int32)) (Rn : Int32) (Ra : (Nat → Int32)) (Rb : (Nat → Int32)) (Rd : (Nat → Int32)) (Ua : (Nat → Int32)) (Wg : Int32) (Wz : Int32) (Ww : Int32) (Wr : Int32) (Mh : Int32) (Mn : Int32) (Mm : Int32) (Mt : (Nat → Int32)) (Mk : (Nat → Int32)) (Ms : (Nat → Int32)) (Me : (Nat → Int32)) (Mp : (Nat → Int32)) (Mw : (Nat → Int32)) (Ml : (Nat → Int32)) (My : (Nat → Int64)) (Oa : (Nat → Int64)) (Od : (Nat → UInt64)) (x5 : Int32) : Option Int32 :=
  fL_law_J2831 N L xs k28 Tn Ta Fn Fa Ba Rn Ra Rb Rd Ua Wg Wz Ww Wr Mh Mn Mm Mt Mk Ms Me Mp Mw Ml My Oa Od x5
def fL_law_J1351 (N : Nat) (L : Nat) (xs : Nat → Int32) (k28 : Int32 → (Nat → Int32) → Int32 → (Nat → Int32) → (Nat → Int32) → Int32 → (Nat → Int32) → (Nat → Int32) → (Nat → Int32) → (Nat → Int32) → Int32 → Int32 → Int32 → Int32 → Int32 → Int32 → Int32 → (Nat → Int32) → (Nat → Int32) → (Nat → Int32) → (Nat → Int32) → (Nat → Int32) → (Nat → Int32) → (Nat → Int32) → (Nat → Int64) → (Nat → Int64) → (Nat → UInt64) → Int32 → Option Int32) (Tn : Int32) (Ta : (Nat → Int32)) (Fn : Int32) (Fa : (Nat → Int32)) (Ba : (Nat → Int32)) (Rn : Int32) (Ra : (Nat → Int32)) (Rb : (Nat → Int32)) (Rd : (Nat → Int32)) (Ua : (Nat → Int32)) (Wg : Int32) (Wz : Int32) (Ww : Int32) (Wr : Int32) (Mh : Int32) (Mn : Int32) (Mm : Int32) (Mt : (Nat → Int32)) (Mk : (Nat → Int32)) (Ms : (Nat → Int32)) (Me : (Nat → Int32)) (Mp : (Nat → Int32)) (Mw : (Nat → Int32)) (Ml : (Nat → Int32)) (My : (Nat → Int64)) (Oa : (Nat → Int64)) (Od : (Nat → UInt64)) (x5 : Int32) : Option Int32 :=
  gd (inb (x5 + (1 : Int32)) L) (
    gd (inb (x5 + (2 : Int32)) L) (
      bn (fL_standardFactor N Tn Ta Oa (xs ((x5 + (1 : Int32))).toNatClampNeg) (xs ((x5 + (2 : Int32))).toNatClampNeg)) (fun v1365 =>
        gd (inb (x5 + (1 : Int32)) L) (
          gd (inb (x5 + (2 : Int32)) L) (
            bn (fX9_standardFactor N Mh Mn Mm Mt (xs ((x5 + (1 : Int32))).toNatClampNeg) (xs ((x5 + (2 : Int32))).toNatClampNeg)) (fun v1383 =>
              bn (fX9_thrown N v1383.2 Mn Mm) (fun v1389 =>
                if v1389 = v1365.1 then
                  if v1365.1 = 0 then
                    gd (inb (0 : Int32) 1) (
                      if (lg_cmp (v1365.2 ((0 : Int32)).toNatClampNeg) ((v1383.1).toInt64)) = 0 then
                        fL_law_J1416 N L xs k28 Tn Ta Fn Fa Ba Rn Ra Rb Rd Ua Wg Wz Ww Wr v1383.2 Mn Mm Mt Mk Ms Me Mp Mw Ml My v1365.2 Od x5
                      else
                        fL_law_J1414 N L xs Tn Ta Fn Fa Ba Rn Ra Rb Rd Ua Wg Wz Ww Wr v1383.2 Mn Mm Mt Mk Ms Me Mp Mw Ml My v1365.2 Od)
                  else
                    fL_law_J1416 N L xs k28 Tn Ta Fn Fa Ba Rn Ra Rb Rd Ua Wg Wz Ww Wr v1383.2 Mn Mm Mt Mk Ms Me Mp Mw Ml My v1365.2 Od x5
                else
                  fL_law_J1397 N L xs Tn Ta Fn Fa Ba Rn Ra Rb Rd Ua Wg Wz Ww Wr v1383.2 Mn Mm Mt Mk Ms Me Mp Mw Ml My v1365.2 Od)))))))
def fL_law_J1484 (N : Nat) (L : Nat) (xs : Nat → Int32) (k28 : Int32 → (Nat → Int32) → Int32 → (Nat → Int32) → (Nat → Int32) → Int32 → (Nat → Int32) → (Nat → Int32) → (Nat → Int32) → (Nat → Int32) → Int32 → Int32 → Int32 → Int32 → Int32 → Int32 → Int32 → (Nat → Int32) → (Nat → Int32) → (Nat → Int32) → (Nat → Int32) → (Nat → Int32) → (Nat → Int32) → (Nat → Int32) → (Nat → Int64) → (Nat → Int64) → (Nat → UInt64) → Int32 → Option Int32) (Tn : Int32) (Ta : (Nat → Int32)) (Fn : Int32) (Fa : (Nat → Int32)) (Ba : (Nat → Int32)) (Rn : Int32) (Ra : (Nat → Int32)) (Rb : (Nat → Int32)) (Rd : (Nat → Int32)) (Ua : (Nat → Int32)) (Wg : Int32) (Wz : Int32) (Ww : Int32) (Wr : Int32) (Mh : Int32) (Mn : Int32) (Mm : Int32) (Mt : (Nat → Int32)) (Mk : (Nat → Int32)) (Ms : (Nat → Int32)) (Me : (Nat → Int32)) (Mp : (Nat → Int32)) (Mw : (Nat → Int32)) (Ml : (Nat → Int32)) (My : (Nat → Int64)) (Oa : (Nat → Int64)) (Od : (Nat → UInt64)) (x5 : Int32) : Option Int32 :=
  fL_law_J2831 N L xs k28 Tn Ta Fn Fa Ba Rn Ra Rb Rd Ua Wg Wz Ww Wr Mh Mn Mm Mt Mk Ms Me Mp Mw Ml My Oa Od x5
def fL_law_J1419 (N : Nat) (L : Nat) (xs : Nat → Int32) (k28 : Int32 → (Nat → Int32) → Int32 → (Nat → Int32) → (Nat → Int32) → Int32 → (Nat → Int32) → (Nat → Int32) → (Nat → Int32) → (Nat → Int32) → Int32 → Int32 → Int32 → Int32 → Int32 → Int32 → Int32 → (Nat → Int32) → (Nat → Int32) → (Nat → Int32) → (Nat → Int32) → (Nat → Int32) → (Nat → Int32) → (Nat → Int32) → (Nat → Int64) → (Nat → Int64) → (Nat → UInt64) → Int32 → Option Int32) (Tn : Int32) (Ta : (Nat → Int32)) (Fn : Int32) (Fa : (Nat → Int32)) (Ba : (Nat → Int32)) (Rn : Int32) (Ra : (Nat → Int32)) (Rb : (Nat → Int32)) (Rd : (Nat → Int32)) (Ua : (Nat → Int32)) (Wg : Int32) (Wz : Int32) (Ww : Int32) (Wr : Int32) (Mh : Int32) (Mn : Int32) (Mm : Int32) (Mt : (Nat → Int32)) (Mk : (Nat → Int32)) (Ms : (Nat → Int32)) (Me : (Nat → Int32)) (Mp : (Nat → Int32)) (Mw : (Nat → Int32)) (Ml : (Nat → Int32)) (My : (Nat → Int64)) (Oa : (Nat → Int64)) (Od : (Nat → UInt64)) (x5 : Int32) : Option Int32 :=
  gd (inb (x5 + (1 : Int32)) L) (
    gd (inb (x5 + (2 : Int32)) L) (
      bn (fL_leastRotation N Tn Ta Oa (xs ((x5 + (1 : Int32))).toNatClampNeg) (xs ((x5 + (2 : Int32))).toNatClampNeg)) (fun v1433 =>
        gd (inb (x5 + (1 : Int32)) L) (
          gd (inb (x5 + (2 : Int32)) L) (
            bn (fX9_leastRotation N Mh Mn Mm Mt (xs ((x5 + (1 : Int32))).toNatClampNeg) (xs ((x5 + (2 : Int32))).toNatClampNeg)) (fun v1451 =>
              bn (fX9_thrown N v1451.2 Mn Mm) (fun v1457 =>
                if v1457 = v1433.1 then
                  if v1433.1 = 0 then
                    gd (inb (0 : Int32) 1) (
                      if (lg_cmp (v1433.2 ((0 : Int32)).toNatClampNeg) ((v1451.1).toInt64)) = 0 then
                        fL_law_J1484 N L xs k28 Tn Ta Fn Fa Ba Rn Ra Rb Rd Ua Wg Wz Ww Wr v1451.2 Mn Mm Mt Mk Ms Me Mp Mw Ml My v1433.2 Od x5
                      else
                        fL_law_J1482 N L xs Tn Ta Fn Fa Ba Rn Ra Rb Rd Ua Wg Wz Ww Wr v1451.2 Mn Mm Mt Mk Ms Me Mp Mw Ml My v1433.2 Od)
                  else
                    fL_law_J1484 N L xs k28 Tn Ta Fn Fa Ba Rn Ra Rb Rd Ua Wg Wz Ww Wr v1451.2 Mn Mm Mt Mk Ms Me Mp Mw Ml My v1433.2 Od x5
                else
                  fL_law_J1465 N L xs Tn Ta Fn Fa Ba Rn Ra Rb Rd Ua Wg Wz Ww Wr v1451.2 Mn Mm Mt Mk Ms Me Mp Mw Ml My v1433.2 Od)))))))
def fL_law_J1552 (N : Nat) (L : Nat) (xs : Nat → Int32) (k28 : Int32 → (Nat → Int32) → Int32 → (Nat → Int32) → (Nat → Int32) → Int32 → (Nat → Int32) → (Nat → Int32) → (Nat → Int32) → (Nat → Int32) → Int32 → Int32 → Int32 → Int32 → Int32 → Int32 → Int32 → (Nat → Int32) → (Nat → Int32) → (Nat → Int32) → (Nat → Int32) → (Nat → Int32) → (Nat → Int32) → (Nat → Int32) → (Nat → Int64) → (Nat → Int64) → (Nat → UInt64) → Int32 → Option Int32) (Tn : Int32) (Ta : (Nat → Int32)) (Fn : Int32) (Fa : (Nat → Int32)) (Ba : (Nat → Int32)) (Rn : Int32) (Ra : (Nat → Int32)) (Rb : (Nat → Int32)) (Rd : (Nat → Int32)) (Ua : (Nat → Int32)) (Wg : Int32) (Wz : Int32) (Ww : Int32) (Wr : Int32) (Mh : Int32) (Mn : Int32) (Mm : Int32) (Mt : (Nat → Int32)) (Mk : (Nat → Int32)) (Ms : (Nat → Int32)) (Me : (Nat → Int32)) (Mp : (Nat → Int32)) (Mw : (Nat → Int32)) (Ml : (Nat → Int32)) (My : (Nat → Int64)) (Oa : (Nat → Int64)) (Od : (Nat → UInt64)) (x5 : Int32) : Option Int32 :=
  fL_law_J2831 N L xs k28 Tn Ta Fn Fa Ba Rn Ra Rb Rd Ua Wg Wz Ww Wr Mh Mn Mm Mt Mk Ms Me Mp Mw Ml My Oa Od x5
def fL_law_J1487 (N : Nat) (L : Nat) (xs : Nat → Int32) (k28 : Int32 → (Nat → Int32) → Int32 → (Nat → Int32) → (Nat → Int32) → Int32 → (Nat → Int32) → (Nat → Int32) → (Nat → Int32) → (Nat → Int32) → Int32 → Int32 → Int32 → Int32 → Int32 → Int32 → Int32 → (Nat → Int32) → (Nat → Int32) → (Nat → Int32) → (Nat → Int32) → (Nat → Int32) → (Nat → Int32) → (Nat → Int32) → (Nat → Int64) → (Nat → Int64) → (Nat → UInt64) → Int32 → Option Int32) (Tn : Int32) (Ta : (Nat → Int32)) (Fn : Int32) (Fa : (Nat → Int32)) (Ba : (Nat → Int32)) (Rn : Int32) (Ra : (Nat → Int32)) (Rb : (Nat → Int32)) (Rd : (Nat → Int32)) (Ua : (Nat → Int32)) (Wg : Int32) (Wz : Int32) (Ww : Int32) (Wr : Int32) (Mh : Int32) (Mn : Int32) (Mm : Int32) (Mt : (Nat → Int32)) (Mk : (Nat → Int32)) (Ms : (Nat → Int32)) (Me : (Nat → Int32)) (Mp : (Nat → Int32)) (Mw : (Nat → Int32)) (Ml : (Nat → Int32)) (My : (Nat → Int64)) (Oa : (Nat → Int64)) (Od : (Nat → UInt64)) (x5 : Int32) : Option Int32 :=
  gd (inb (x5 + (1 : Int32)) L) (
    gd (inb (x5 + (2 : Int32)) L) (
      bn (fL_greatestRotation N Tn Ta Oa (xs ((x5 + (1 : Int32))).toNatClampNeg) (xs ((x5 + (2 : Int32))).toNatClampNeg)) (fun v1501 =>
        gd (inb (x5 + (1 : Int32)) L) (
          gd (inb (x5 + (2 : Int32)) L) (
            bn (fX9_greatestRotation N Mh Mn Mm Mt (xs ((x5 + (1 : Int32))).toNatClampNeg) (xs ((x5 + (2 : Int32))).toNatClampNeg)) (fun v1519 =>
              bn (fX9_thrown N v1519.2 Mn Mm) (fun v1525 =>
                if v1525 = v1501.1 then
                  if v1501.1 = 0 then
                    gd (inb (0 : Int32) 1) (
                      if (lg_cmp (v1501.2 ((0 : Int32)).toNatClampNeg) ((v1519.1).toInt64)) = 0 then
                        fL_law_J1552 N L xs k28 Tn Ta Fn Fa Ba Rn Ra Rb Rd Ua Wg Wz Ww Wr v1519.2 Mn Mm Mt Mk Ms Me Mp Mw Ml My v1501.2 Od x5
                      else
                        fL_law_J1550 N L xs Tn Ta Fn Fa Ba Rn Ra Rb Rd Ua Wg Wz Ww Wr v1519.2 Mn Mm Mt Mk Ms Me Mp Mw Ml My v1501.2 Od)
                  else
                    fL_law_J1552 N L xs k28 Tn Ta Fn Fa Ba Rn Ra Rb Rd Ua Wg Wz Ww Wr v1519.2 Mn Mm Mt Mk Ms Me Mp Mw Ml My v1501.2 Od x5
                else
                  fL_law_J1533 N L xs Tn Ta Fn Fa Ba Rn Ra Rb Rd Ua Wg Wz Ww Wr v1519.2 Mn Mm Mt Mk Ms Me Mp Mw Ml My v1501.2 Od)))))))
def fL_law_J1620 (N : Nat) (L : Nat) (xs : Nat → Int32) (k28 : Int32 → (Nat → Int32) → Int32 → (Nat → Int32) → (Nat → Int32) → Int32 → (Nat → Int32) → (Nat → Int32) → (Nat → Int32) → (Nat → Int32) → Int32 → Int32 → Int32 → Int32 → Int32 → Int32 → Int32 → (Nat → Int32) → (Nat → Int32) → (Nat → Int32) → (Nat → Int32) → (Nat → Int32) → (Nat → Int32) → (Nat → Int32) → (Nat → Int64) → (Nat → Int64) → (Nat → UInt64) → Int32 → Option Int32) (Tn : Int32) (Ta : (Nat → Int32)) (Fn : Int32) (Fa : (Nat → Int32)) (Ba : (Nat → Int32)) (Rn : Int32) (Ra : (Nat → Int32)) (Rb : (Nat → Int32)) (Rd : (Nat → Int32)) (Ua : (Nat → Int32)) (Wg : Int32) (Wz : Int32) (Ww : Int32) (Wr : Int32) (Mh : Int32) (Mn : Int32) (Mm : Int32) (Mt : (Nat → Int32)) (Mk : (Nat → Int32)) (Ms : (Nat → Int32)) (Me : (Nat → Int32)) (Mp : (Nat → Int32)) (Mw : (Nat → Int32)) (Ml : (Nat → Int32)) (My : (Nat → Int64)) (Oa : (Nat → Int64)) (Od : (Nat → UInt64)) (x5 : Int32) : Option Int32 :=
  fL_law_J2831 N L xs k28 Tn Ta Fn Fa Ba Rn Ra Rb Rd Ua Wg Wz Ww Wr Mh Mn Mm Mt Mk Ms Me Mp Mw Ml My Oa Od x5
def fL_law_J1555 (N : Nat) (L : Nat) (xs : Nat → Int32) (k28 : Int32 → (Nat → Int32) → Int32 → (Nat → Int32) → (Nat → Int32) → Int32 → (Nat → Int32) → (Nat → Int32) → (Nat → Int32) → (Nat → Int32) → Int32 → Int32 → Int32 → Int32 → Int32 → Int32 → Int32 → (Nat → Int32) → (Nat → Int32) → (Nat → Int32) → (Nat → Int32) → (Nat → Int32) → (Nat → Int32) → (Nat → Int32) → (Nat → Int64) → (Nat → Int64) → (Nat → UInt64) → Int32 → Option Int32) (Tn : Int32) (Ta : (Nat → Int32)) (Fn : Int32) (Fa : (Nat → Int32)) (Ba : (Nat → Int32)) (Rn : Int32) (Ra : (Nat → Int32)) (Rb : (Nat → Int32)) (Rd : (Nat → Int32)) (Ua : (Nat → Int32)) (Wg : Int32) (Wz : Int32) (Ww : Int32) (Wr : Int32) (Mh : Int32) (Mn : Int32) (Mm : Int32) (Mt : (Nat → Int32)) (Mk : (Nat → Int32)) (Ms : (Nat → Int32)) (Me : (Nat → Int32)) (Mp : (Nat → Int32)) (Mw : (Nat → Int32)) (Ml : (Nat → Int32)) (My : (Nat → Int64)) (Oa : (Nat → Int64)) (Od : (Nat → UInt64)) (x5 : Int32) : Option Int32 :=
  gd (inb (x5 + (1 : Int32)) L) (
    gd (inb (x5 + (2 : Int32)) L) (
      bn (fL_rotations N Tn Ta Ba Oa (xs ((x5 + (1 : Int32))).toNatClampNeg) (xs ((x5 + (2 : Int32))).toNatClampNeg)) (fun v1569 =>
        gd (inb (x5 + (1 : Int32)) L) (
          gd (inb (x5 + (2 : Int32)) L) (
            bn (fX9_rotations N Mh Mn Mm Mt (xs ((x5 + (1 : Int32))).toNatClampNeg) (xs ((x5 + (2 : Int32))).toNatClampNeg)) (fun v1587 =>
              bn (fX9_thrown N v1587.2 Mn Mm) (fun v1593 =>
                if v1593 = v1569.1 then
                  if v1569.1 = 0 then
                    gd (inb (0 : Int32) 1) (
                      if (lg_cmp (v1569.2.2 ((0 : Int32)).toNatClampNeg) ((v1587.1).toInt64)) = 0 then
                        fL_law_J1620 N L xs k28 Tn Ta Fn Fa v1569.2.1 Rn Ra Rb Rd Ua Wg Wz Ww Wr v1587.2 Mn Mm Mt Mk Ms Me Mp Mw Ml My v1569.2.2 Od x5
                      else
                        fL_law_J1618 N L xs Tn Ta Fn Fa v1569.2.1 Rn Ra Rb Rd Ua Wg Wz Ww Wr v1587.2 Mn Mm Mt Mk Ms Me Mp Mw Ml My v1569.2.2 Od)
                  else
                    fL_law_J1620 N L xs k28 Tn Ta Fn Fa v1569.2.1 Rn Ra Rb Rd Ua Wg Wz Ww Wr v1587.2 Mn Mm Mt Mk Ms Me Mp Mw Ml My v1569.2.2 Od x5
                else
                  fL_law_J1601 N L xs Tn Ta Fn Fa v1569.2.1 Rn Ra Rb Rd Ua Wg Wz Ww Wr v1587.2 Mn Mm Mt Mk Ms Me Mp Mw Ml My v1569.2.2 Od)))))))
def fL_law_J1695 (N : Nat) (L : Nat) (xs : Nat → Int32) (k28 : Int32 → (Nat → Int32) → Int32 → (Nat → Int32) → (Nat → Int32) → Int32 → (Nat → Int32) → (Nat → Int32) → (Nat → Int32) → (Nat → Int32) → Int32 → Int32 → Int32 → Int32 → Int32 → Int32 → Int32 → (Nat → Int32) → (Nat → Int32) → (Nat → Int32) → (Nat → Int32) → (Nat → Int32) → (Nat → Int32) → (Nat → Int32) → (Nat → Int64) → (Nat → Int64) → (Nat → UInt64) → Int32 → Option Int32) (Tn : Int32) (Ta : (Nat → Int32)) (Fn : Int32) (Fa : (Nat → Int32)) (Ba : (Nat → Int32)) (Rn : Int32) (Ra : (Nat → Int32)) (Rb : (Nat → Int32)) (Rd : (Nat → Int32)) (Ua : (Nat → Int32)) (Wg : Int32) (Wz : Int32) (Ww : Int32) (Wr : Int32) (Mh : Int32) (Mn : Int32) (Mm : Int32) (Mt : (Nat → Int32)) (Mk : (Nat → Int32)) (Ms : (Nat → Int32)) (Me : (Nat → Int32)) (Mp : (Nat → Int32)) (Mw : (Nat → Int32)) (Ml : (Nat → Int32)) (My : (Nat → Int64)) (Oa : (Nat → Int64)) (Od : (Nat → UInt64)) (x5 : Int32) : Option Int32 :=
  fL_law_J2831 N L xs k28 Tn Ta Fn Fa Ba Rn Ra Rb Rd Ua Wg Wz Ww Wr Mh Mn Mm Mt Mk Ms Me Mp Mw Ml My Oa Od x5
def fL_law_J1689 (N : Nat) (L : Nat) (xs : Nat → Int32) (k28 : Int32 → (Nat → Int32) → Int32 → (Nat → Int32) → (Nat → Int32) → Int32 → (Nat → Int32) → (Nat → Int32) → (Nat → Int32) → (Nat → Int32) → Int32 → Int32 → Int32 → Int32 → Int32 → Int32 → Int32 → (Nat → Int32) → (Nat → Int32) → (Nat → Int32) → (Nat → Int32) → (Nat → Int32) → (Nat → Int32) → (Nat → Int32) → (Nat → Int64) → (Nat → Int64) → (Nat → UInt64) → Int32 → Option Int32) (Tn : Int32) (Ta : (Nat → Int32)) (Fn : Int32) (Fa : (Nat → Int32)) (Ba : (Nat → Int32)) (Rn : Int32) (Ra : (Nat → Int32)) (Rb : (Nat → Int32)) (Rd : (Nat → Int32)) (Ua : (Nat → Int32)) (Wg : Int32) (Wz : Int32) (Ww : Int32) (Wr : Int32) (Mh : Int32) (Mn : Int32) (Mm : Int32) (Mt : (Nat → Int32)) (Mk : (Nat → Int32)) (Ms : (Nat → Int32)) (Me : (Nat → Int32)) (Mp : (Nat → Int32)) (Mw : (Nat → Int32)) (Ml : (Nat → Int32)) (My : (Nat → Int64)) (Oa : (Nat → Int64)) (Od : (Nat → UInt64)) (x5 : Int32) (y0 : Int64) (y1 : Int64) : Option Int32 :=
  if (lg_cmp y0 y1) = 0 then
    fL_law_J1695 N L xs k28 Tn Ta Fn Fa Ba Rn Ra Rb Rd Ua Wg Wz Ww Wr Mh Mn Mm Mt Mk Ms Me Mp Mw Ml My Oa Od x5
  else
    fL_law_J1693 N L xs Tn Ta Fn Fa Ba Rn Ra Rb Rd Ua Wg Wz Ww Wr Mh Mn Mm Mt Mk Ms Me Mp Mw Ml My Oa Od
def fL_law_J1623 (N : Nat) (L : Nat) (xs : Nat → Int32) (k28 : Int32 → (Nat → Int32) → Int32 → (Nat → Int32) → (Nat → Int32) → Int32 → (Nat → Int32) → (Nat → Int32) → (Nat → Int32) → (Nat → Int32) → Int32 → Int32 → Int32 → Int32 → Int32 → Int32 → Int32 → (Nat → Int32) → (Nat → Int32) → (Nat → Int32) → (Nat → Int32) → (Nat → Int32) → (Nat → Int32) → (Nat → Int32) → (Nat → Int64) → (Nat → Int64) → (Nat → UInt64) → Int32 → Option Int32) (Tn : Int32) (Ta : (Nat → Int32)) (Fn : Int32) (Fa : (Nat → Int32)) (Ba : (Nat → Int32)) (Rn : Int32) (Ra : (Nat → Int32)) (Rb : (Nat → Int32)) (Rd : (Nat → Int32)) (Ua : (Nat → Int32)) (Wg : Int32) (Wz : Int32) (Ww : Int32) (Wr : Int32) (Mh : Int32) (Mn : Int32) (Mm : Int32) (Mt : (Nat → Int32)) (Mk : (Nat → Int32)) (Ms : (Nat → Int32)) (Me : (Nat → Int32)) (Mp : (Nat → Int32)) (Mw : (Nat → Int32)) (Ml : (Nat → Int32)) (My : (Nat → Int64)) (Oa : (Nat → Int64)) (Od : (Nat → UInt64)) (x5 : Int32) : Option Int32 :=
  gd (inb (x5 + (1 : Int32)) L) (
    gd (inb (x5 + (2 : Int32)) L) (
      bn (fL_isNecklace N Tn Ta Oa (xs ((x5 + (1 : Int32))).toNatClampNeg) (xs ((x5 + (2 : Int32))).toNatClampNeg)) (fun v1637 =>
        gd (inb (x5 + (1 : Int32)) L) (
          gd (inb (x5 + (2 : Int32)) L) (
            bn (fX9_isNecklace N Mh Mn Mm Mt (xs ((x5 + (1 : Int32))).toNatClampNeg) (xs ((x5 + (2 : Int32))).toNatClampNeg)) (fun v1655 =>
              bn (fX9_thrown N v1655.2 Mn Mm) (fun v1661 =>
                if v1661 = v1637.1 then
                  if v1637.1 = 0 then
                    gd (inb (0 : Int32) 1) (
                      if v1655.1 = 0 then
                        fL_law_J1689 N L xs k28 Tn Ta Fn Fa Ba Rn Ra Rb Rd Ua Wg Wz Ww Wr v1655.2 Mn Mm Mt Mk Ms Me Mp Mw Ml My v1637.2 Od x5 (v1637.2 ((0 : Int32)).toNatClampNeg) (0 : Int64)
                      else
                        fL_law_J1689 N L xs k28 Tn Ta Fn Fa Ba Rn Ra Rb Rd Ua Wg Wz Ww Wr v1655.2 Mn Mm Mt Mk Ms Me Mp Mw Ml My v1637.2 Od x5 (v1637.2 ((0 : Int32)).toNatClampNeg) (1 : Int64))
                  else
                    fL_law_J1695 N L xs k28 Tn Ta Fn Fa Ba Rn Ra Rb Rd Ua Wg Wz Ww Wr v1655.2 Mn Mm Mt Mk Ms Me Mp Mw Ml My v1637.2 Od x5
                else
                  fL_law_J1669 N L xs Tn Ta Fn Fa Ba Rn Ra Rb Rd Ua Wg Wz Ww Wr v1655.2 Mn Mm Mt Mk Ms Me Mp Mw Ml My v1637.2 Od)))))))
def fL_law_J1763 (N : Nat) (L : Nat) (xs : Nat → Int32) (k28 : Int32 → (Nat → Int32) → Int32 → (Nat → Int32) → (Nat → Int32) → Int32 → (Nat → Int32) → (Nat → Int32) → (Nat → Int32) → (Nat → Int32) → Int32 → Int32 → Int32 → Int32 → Int32 → Int32 → Int32 → (Nat → Int32) → (Nat → Int32) → (Nat → Int32) → (Nat → Int32) → (Nat → Int32) → (Nat → Int32) → (Nat → Int32) → (Nat → Int64) → (Nat → Int64) → (Nat → UInt64) → Int32 → Option Int32) (Tn : Int32) (Ta : (Nat → Int32)) (Fn : Int32) (Fa : (Nat → Int32)) (Ba : (Nat → Int32)) (Rn : Int32) (Ra : (Nat → Int32)) (Rb : (Nat → Int32)) (Rd : (Nat → Int32)) (Ua : (Nat → Int32)) (Wg : Int32) (Wz : Int32) (Ww : Int32) (Wr : Int32) (Mh : Int32) (Mn : Int32) (Mm : Int32) (Mt : (Nat → Int32)) (Mk : (Nat → Int32)) (Ms : (Nat → Int32)) (Me : (Nat → Int32)) (Mp : (Nat → Int32)) (Mw : (Nat → Int32)) (Ml : (Nat → Int32)) (My : (Nat → Int64)) (Oa : (Nat → Int64)) (Od : (Nat → UInt64)) (x5 : Int32) : Option Int32 :=
  fL_law_J2831 N L xs k28 Tn Ta Fn Fa Ba Rn Ra Rb Rd Ua Wg Wz Ww Wr Mh Mn Mm Mt Mk Ms Me Mp Mw Ml My Oa Od x5
def fL_law_J1698 (N : Nat) (L : Nat) (xs : Nat → Int32) (k28 : Int32 → (Nat → Int32) → Int32 → (Nat → Int32) → (Nat → Int32) → Int32 → (Nat → Int32) → (Nat → Int32) → (Nat → Int32) → (Nat → Int32) → Int32 → Int32 → Int32 → Int32 → Int32 → Int32 → Int32 → (Nat → Int32) → (Nat → Int32) → (Nat → Int32) → (Nat → Int32) → (Nat → Int32) → (Nat → Int32) → (Nat → Int32) → (Nat → Int64) → (Nat → Int64) → (Nat → UInt64) → Int32 → Option Int32) (Tn : Int32) (Ta : (Nat → Int32)) (Fn : Int32) (Fa : (Nat → Int32)) (Ba : (Nat → Int32)) (Rn : Int32) (Ra : (Nat → Int32)) (Rb : (Nat → Int32)) (Rd : (Nat → Int32)) (Ua : (Nat → Int32)) (Wg : Int32) (Wz : Int32) (Ww : Int32) (Wr : Int32) (Mh : Int32) (Mn : Int32) (Mm : Int32) (Mt : (Nat → Int32)) (Mk : (Nat → Int32)) (Ms : (Nat → Int32)) (Me : (Nat → Int32)) (Mp : (Nat → Int32)) (Mw : (Nat → Int32)) (Ml : (Nat → Int32)) (My : (Nat → Int64)) (Oa : (Nat → Int64)) (Od : (Nat → UInt64)) (x5 : Int32) : Option Int32 :=
  gd (inb (x5 + (1 : Int32)) L) (
    gd (inb (x5 + (2 : Int32)) L) (
      bn (fL_period N Tn Ta Ba Oa (xs ((x5 + (1 : Int32))).toNatClampNeg) (xs ((x5 + (2 : Int32))).toNatClampNeg)) (fun v1712 =>
        gd (inb (x5 + (1 : Int32)) L) (
          gd (inb (x5 + (2 : Int32)) L) (
            bn (fX9_period N Mh Mn Mm Mt (xs ((x5 + (1 : Int32))).toNatClampNeg) (xs ((x5 + (2 : Int32))).toNatClampNeg)) (fun v1730 =>
              bn (fX9_thrown N v1730.2 Mn Mm) (fun v1736 =>
                if v1736 = v1712.1 then
                  if v1712.1 = 0 then
                    gd (inb (0 : Int32) 1) (
                      if (lg_cmp (v1712.2.2 ((0 : Int32)).toNatClampNeg) ((v1730.1).toInt64)) = 0 then
                        fL_law_J1763 N L xs k28 Tn Ta Fn Fa v1712.2.1 Rn Ra Rb Rd Ua Wg Wz Ww Wr v1730.2 Mn Mm Mt Mk Ms Me Mp Mw Ml My v1712.2.2 Od x5
                      else
                        fL_law_J1761 N L xs Tn Ta Fn Fa v1712.2.1 Rn Ra Rb Rd Ua Wg Wz Ww Wr v1730.2 Mn Mm Mt Mk Ms Me Mp Mw Ml My v1712.2.2 Od)
                  else
                    fL_law_J1763 N L xs k28 Tn Ta Fn Fa v1712.2.1 Rn Ra Rb Rd Ua Wg Wz Ww Wr v1730.2 Mn Mm Mt Mk Ms Me Mp Mw Ml My v1712.2.2 Od x5
                else
                  fL_law_J1744 N L xs Tn Ta Fn Fa v1712.2.1 Rn Ra Rb Rd Ua Wg Wz Ww Wr v1730.2 Mn Mm Mt Mk Ms Me Mp Mw Ml My v1712.2.2 Od)))))))
def fL_law_J1831 (N : Nat) (L : Nat) (xs : Nat → Int32) (k28 : Int32 → (Nat → Int32) → Int32 → (Nat → Int32) → (Nat → Int32) → Int32 → (Nat → Int32) → (Nat → Int32) → (Nat → Int32) → (Nat → Int32) → Int32 → Int32 → Int32 → Int32 → Int32 → Int32 → Int32 → (Nat → Int32) → (Nat → Int32) → (Nat → Int32) → (Nat → Int32) → (Nat → Int32) → (Nat → Int32) → (Nat → Int32) → (Nat → Int64) → (Nat → Int64) → (Nat → UInt64) → Int32 → Option Int32) (Tn : Int32) (Ta : (Nat → Int32)) (Fn : Int32) (Fa : (Nat → Int32)) (Ba : (Nat → Int32)) (Rn : Int32) (Ra : (Nat → Int32)) (Rb : (Nat → Int32)) (Rd : (Nat → Int32)) (Ua : (Nat → Int32)) (Wg : Int32) (Wz : Int32) (Ww : Int32) (Wr : Int32) (Mh : Int32) (Mn : Int32) (Mm : Int32) (Mt : (Nat → Int32)) (Mk : (Nat → Int32)) (Ms : (Nat → Int32)) (Me : (Nat → Int32)) (Mp : (Nat → Int32)) (Mw : (Nat → Int32)) (Ml : (Nat → Int32)) (My : (Nat → Int64)) (Oa : (Nat → Int64)) (Od : (Nat → UInt64)) (x5 : Int32) : Option Int32 :=
  fL_law_J2831 N L xs k28 Tn Ta Fn Fa Ba Rn Ra Rb Rd Ua Wg Wz Ww Wr Mh Mn Mm Mt Mk Ms Me Mp Mw Ml My Oa Od x5
def fL_law_J1766 (N : Nat) (L : Nat) (xs : Nat → Int32) (k28 : Int32 → (Nat → Int32) → Int32 → (Nat → Int32) → (Nat → Int32) → Int32 → (Nat → Int32) → (Nat → Int32) → (Nat → Int32) → (Nat → Int32) → Int32 → Int32 → Int32 → Int32 → Int32 → Int32 → Int32 → (Nat → Int32) → (Nat → Int32) → (Nat → Int32) → (Nat → Int32) → (Nat → Int32) → (Nat → Int32) → (Nat → Int32) → (Nat → Int64) → (Nat → Int64) → (Nat → UInt64) → Int32 → Option Int32) (Tn : Int32) (Ta : (Nat → Int32)) (Fn : Int32) (Fa : (Nat → Int32)) (Ba : (Nat → Int32)) (Rn : Int32) (Ra : (Nat → Int32)) (Rb : (Nat → Int32)) (Rd : (Nat → Int32)) (Ua : (Nat → Int32)) (Wg : Int32) (Wz : Int32) (Ww : Int32) (Wr : Int32) (Mh : Int32) (Mn : Int32) (Mm : Int32) (Mt : (Nat → Int32)) (Mk : (Nat → Int32)) (Ms : (Nat → Int32)) (Me : (Nat → Int32)) (Mp : (Nat → Int32)) (Mw : (Nat → Int32)) (Ml : (Nat → Int32)) (My : (Nat → Int64)) (Oa : (Nat → Int64)) (Od : (Nat → UInt64)) (x5 : Int32) : Option Int32 :=
  gd (inb (x5 + (1 : Int32)) L) (
    gd (inb (x5 + (2 : Int32)) L) (
      bn (fL_periodByTrying N Tn Ta Oa (xs ((x5 + (1 : Int32))).toNatClampNeg) (xs ((x5 + (2 : Int32))).toNatClampNeg)) (fun v1780 =>
        gd (inb (x5 + (1 : Int32)) L) (
          gd (inb (x5 + (2 : Int32)) L) (
            bn (fX9_periodByTrying N Mh Mn Mm Mt (xs ((x5 + (1 : Int32))).toNatClampNeg) (xs ((x5 + (2 : Int32))).toNatClampNeg)) (fun v1798 =>
              bn (fX9_thrown N v1798.2 Mn Mm) (fun v1804 =>
                if v1804 = v1780.1 then
                  if v1780.1 = 0 then
                    gd (inb (0 : Int32) 1) (
                      if (lg_cmp (v1780.2 ((0 : Int32)).toNatClampNeg) ((v1798.1).toInt64)) = 0 then
                        fL_law_J1831 N L xs k28 Tn Ta Fn Fa Ba Rn Ra Rb Rd Ua Wg Wz Ww Wr v1798.2 Mn Mm Mt Mk Ms Me Mp Mw Ml My v1780.2 Od x5
                      else
                        fL_law_J1829 N L xs Tn Ta Fn Fa Ba Rn Ra Rb Rd Ua Wg Wz Ww Wr v1798.2 Mn Mm Mt Mk Ms Me Mp Mw Ml My v1780.2 Od)
                  else
                    fL_law_J1831 N L xs k28 Tn Ta Fn Fa Ba Rn Ra Rb Rd Ua Wg Wz Ww Wr v1798.2 Mn Mm Mt Mk Ms Me Mp Mw Ml My v1780.2 Od x5
                else
                  fL_law_J1812 N L xs Tn Ta Fn Fa Ba Rn Ra Rb Rd Ua Wg Wz Ww Wr v1798.2 Mn Mm Mt Mk Ms Me Mp Mw Ml My v1780.2 Od)))))))
def fL_law_J1918 (N : Nat) (L : Nat) (xs : Nat → Int32) (k28 : Int32 → (Nat → Int32) → Int32 → (Nat → Int32) → (Nat → Int32) → Int32 → (Nat → Int32) → (Nat → Int32) → (Nat → Int32) → (Nat → Int32) → Int32 → Int32 → Int32 → Int32 → Int32 → Int32 → Int32 → (Nat → Int32) → (Nat → Int32) → (Nat → Int32) → (Nat → Int32) → (Nat → Int32) → (Nat → Int32) → (Nat → Int32) → (Nat → Int64) → (Nat → Int64) → (Nat → UInt64) → Int32 → Option Int32) (Tn : Int32) (Ta : (Nat → Int32)) (Fn : Int32) (Fa : (Nat → Int32)) (Ba : (Nat → Int32)) (Rn : Int32) (Ra : (Nat → Int32)) (Rb : (Nat → Int32)) (Rd : (Nat → Int32)) (Ua : (Nat → Int32)) (Wg : Int32) (Wz : Int32) (Ww : Int32) (Wr : Int32) (Mh : Int32) (Mn : Int32) (Mm : Int32) (Mt : (Nat → Int32)) (Mk : (Nat → Int32)) (Ms : (Nat → Int32)) (Me : (Nat → Int32)) (Mp : (Nat → Int32)) (Mw : (Nat → Int32)) (Ml : (Nat → Int32)) (My : (Nat → Int64)) (Oa : (Nat → Int64)) (Od : (Nat → UInt64)) (x5 : Int32) : Option Int32 :=
  fL_law_J2831 N L xs k28 Tn Ta Fn Fa Ba Rn Ra Rb Rd Ua Wg Wz Ww Wr Mh Mn Mm Mt Mk Ms Me Mp Mw Ml My Oa Od x5
def fL_law_J1912 (N : Nat) (L : Nat) (xs : Nat → Int32) (k28 : Int32 → (Nat → Int32) → Int32 → (Nat → Int32) → (Nat → Int32) → Int32 → (Nat → Int32) → (Nat → Int32) → (Nat → Int32) → (Nat → Int32) → Int32 → Int32 → Int32 → Int32 → Int32 → Int32 → Int32 → (Nat → Int32) → (Nat → Int32) → (Nat → Int32) → (Nat → Int32) → (Nat → Int32) → (Nat → Int32) → (Nat → Int32) → (Nat → Int64) → (Nat → Int64) → (Nat → UInt64) → Int32 → Option Int32) (Tn : Int32) (Ta : (Nat → Int32)) (Fn : Int32) (Fa : (Nat → Int32)) (Ba : (Nat → Int32)) (Rn : Int32) (Ra : (Nat → Int32)) (Rb : (Nat → Int32)) (Rd : (Nat → Int32)) (Ua : (Nat → Int32)) (Wg : Int32) (Wz : Int32) (Ww : Int32) (Wr : Int32) (Mh : Int32) (Mn : Int32) (Mm : Int32) (Mt : (Nat → Int32)) (Mk : (Nat → Int32)) (Ms : (Nat → Int32)) (Me : (Nat → Int32)) (Mp : (Nat → Int32)) (Mw : (Nat → Int32)) (Ml : (Nat → Int32)) (My : (Nat → Int64)) (Oa : (Nat → Int64)) (Od : (Nat → UInt64)) (x5 : Int32) (y0 : Int64) (y1 : Int64) : Option Int32 :=
  if (lg_cmp y0 y1) = 0 then
    fL_law_J1918 N L xs k28 Tn Ta Fn Fa Ba Rn Ra Rb Rd Ua Wg Wz Ww Wr Mh Mn Mm Mt Mk Ms Me Mp Mw Ml My Oa Od x5
  else
    fL_law_J1916 N L xs Tn Ta Fn Fa Ba Rn Ra Rb Rd Ua Wg Wz Ww Wr Mh Mn Mm Mt Mk Ms Me Mp Mw Ml My Oa Od
def fL_law_J1834 (N : Nat) (L : Nat) (xs : Nat → Int32) (k28 : Int32 → (Nat → Int32) → Int32 → (Nat → Int32) → (Nat → Int32) → Int32 → (Nat → Int32) → (Nat → Int32) → (Nat → Int32) → (Nat → Int32) → Int32 → Int32 → Int32 → Int32 → Int32 → Int32 → Int32 → (Nat → Int32) → (Nat → Int32) → (Nat → Int32) → (Nat → Int32) → (Nat → Int32) → (Nat → Int32) → (Nat → Int32) → (Nat → Int64) → (Nat → Int64) → (Nat → UInt64) → Int32 → Option Int32) (Tn : Int32) (Ta : (Nat → Int32)) (Fn : Int32) (Fa : (Nat → Int32)) (Ba : (Nat → Int32)) (Rn : Int32) (Ra : (Nat → Int32)) (Rb : (Nat → Int32)) (Rd : (Nat → Int32)) (Ua : (Nat → Int32)) (Wg : Int32) (Wz : Int32) (Ww : Int32) (Wr : Int32) (Mh : Int32) (Mn : Int32) (Mm : Int32) (Mt : (Nat → Int32)) (Mk : (Nat → Int32)) (Ms : (Nat → Int32)) (Me : (Nat → Int32)) (Mp : (Nat → Int32)) (Mw : (Nat → Int32)) (Ml : (Nat → Int32)) (My : (Nat → Int64)) (Oa : (Nat → Int64)) (Od : (Nat → UInt64)) (x5 : Int32) : Option Int32 :=
  gd (inb (x5 + (1 : Int32)) L) (
    gd (inb (x5 + (2 : Int32)) L) (
      gd (inb (x5 + (3 : Int32)) L) (
        bn (fL_isPeriod N Tn Ta Oa (xs ((x5 + (1 : Int32))).toNatClampNeg) (xs ((x5 + (2 : Int32))).toNatClampNeg) (xs ((x5 + (3 : Int32))).toNatClampNeg)) (fun v1854 =>
          gd (inb (x5 + (1 : Int32)) L) (
            gd (inb (x5 + (2 : Int32)) L) (
              gd (inb (x5 + (3 : Int32)) L) (
                bn (fX9_isPeriod N Mh Mn Mm Mt (xs ((x5 + (1 : Int32))).toNatClampNeg) (xs ((x5 + (2 : Int32))).toNatClampNeg) (xs ((x5 + (3 : Int32))).toNatClampNeg)) (fun v1878 =>
                  bn (fX9_thrown N v1878.2 Mn Mm) (fun v1884 =>
                    if v1884 = v1854.1 then
                      if v1854.1 = 0 then
                        gd (inb (0 : Int32) 1) (
                          if v1878.1 = 0 then
                            fL_law_J1912 N L xs k28 Tn Ta Fn Fa Ba Rn Ra Rb Rd Ua Wg Wz Ww Wr v1878.2 Mn Mm Mt Mk Ms Me Mp Mw Ml My v1854.2 Od x5 (v1854.2 ((0 : Int32)).toNatClampNeg) (0 : Int64)
                          else
                            fL_law_J1912 N L xs k28 Tn Ta Fn Fa Ba Rn Ra Rb Rd Ua Wg Wz Ww Wr v1878.2 Mn Mm Mt Mk Ms Me Mp Mw Ml My v1854.2 Od x5 (v1854.2 ((0 : Int32)).toNatClampNeg) (1 : Int64))
                      else
                        fL_law_J1918 N L xs k28 Tn Ta Fn Fa Ba Rn Ra Rb Rd Ua Wg Wz Ww Wr v1878.2 Mn Mm Mt Mk Ms Me Mp Mw Ml My v1854.2 Od x5
                    else
                      fL_law_J1892 N L xs Tn Ta Fn Fa Ba Rn Ra Rb Rd Ua Wg Wz Ww Wr v1878.2 Mn Mm Mt Mk Ms Me Mp Mw Ml My v1854.2 Od)))))))))
def fL_law_J1986 (N : Nat) (L : Nat) (xs : Nat → Int32) (k28 : Int32 → (Nat → Int32) → Int32 → (Nat → Int32) → (Nat → Int32) → Int32 → (Nat → Int32) → (Nat → Int32) → (Nat → Int32) → (Nat → Int32) → Int32 → Int32 → Int32 → Int32 → Int32 → Int32 → Int32 → (Nat → Int32) → (Nat → Int32) → (Nat → Int32) → (Nat → Int32) → (Nat → Int32) → (Nat → Int32) → (Nat → Int32) → (Nat → Int64) → (Nat → Int64) → (Nat → UInt64) → Int32 → Option Int32) (Tn : Int32) (Ta : (Nat → Int32)) (Fn : Int32) (Fa : (Nat → Int32)) (Ba : (Nat → Int32)) (Rn : Int32) (Ra : (Nat → Int32)) (Rb : (Nat → Int32)) (Rd : (Nat → Int32)) (Ua : (Nat → Int32)) (Wg : Int32) (Wz : Int32) (Ww : Int32) (Wr : Int32) (Mh : Int32) (Mn : Int32) (Mm : Int32) (Mt : (Nat → Int32)) (Mk : (Nat → Int32)) (Ms : (Nat → Int32)) (Me : (Nat → Int32)) (Mp : (Nat → Int32)) (Mw : (Nat → Int32)) (Ml : (Nat → Int32)) (My : (Nat → Int64)) (Oa : (Nat → Int64)) (Od : (Nat → UInt64)) (x5 : Int32) : Option Int32 :=
  fL_law_J2831 N L xs k28 Tn Ta Fn Fa Ba Rn Ra Rb Rd Ua Wg Wz Ww Wr Mh Mn Mm Mt Mk Ms Me Mp Mw Ml My Oa Od x5
def fL_law_J1921 (N : Nat) (L : Nat) (xs : Nat → Int32) (k28 : Int32 → (Nat → Int32) → Int32 → (Nat → Int32) → (Nat → Int32) → Int32 → (Nat → Int32) → (Nat → Int32) → (Nat → Int32) → (Nat → Int32) → Int32 → Int32 → Int32 → Int32 → Int32 → Int32 → Int32 → (Nat → Int32) → (Nat → Int32) → (Nat → Int32) → (Nat → Int32) → (Nat → Int32) → (Nat → Int32) → (Nat → Int32) → (Nat → Int64) → (Nat → Int64) → (Nat → UInt64) → Int32 → Option Int32) (Tn : Int32) (Ta : (Nat → Int32)) (Fn : Int32) (Fa : (Nat → Int32)) (Ba : (Nat → Int32)) (Rn : Int32) (Ra : (Nat → Int32)) (Rb : (Nat → Int32)) (Rd : (Nat → Int32)) (Ua : (Nat → Int32)) (Wg : Int32) (Wz : Int32) (Ww : Int32) (Wr : Int32) (Mh : Int32) (Mn : Int32) (Mm : Int32) (Mt : (Nat → Int32)) (Mk : (Nat → Int32)) (Ms : (Nat → Int32)) (Me : (Nat → Int32)) (Mp : (Nat → Int32)) (Mw : (Nat → Int32)) (Ml : (Nat → Int32)) (My : (Nat → Int64)) (Oa : (Nat → Int64)) (Od : (Nat → UInt64)) (x5 : Int32) : Option Int32 :=
  gd (inb (x5 + (1 : Int32)) L) (
    gd (inb (x5 + (2 : Int32)) L) (
      bn (fL_periods N Tn Ta Ba Oa (xs ((x5 + (1 : Int32))).toNatClampNeg) (xs ((x5 + (2 : Int32))).toNatClampNeg)) (fun v1935 =>
        gd (inb (x5 + (1 : Int32)) L) (
          gd (inb (x5 + (2 : Int32)) L) (
            bn (fX9_periods N Mh Mn Mm Mt (xs ((x5 + (1 : Int32))).toNatClampNeg) (xs ((x5 + (2 : Int32))).toNatClampNeg)) (fun v1953 =>
              bn (fX9_thrown N v1953.2 Mn Mm) (fun v1959 =>
                if v1959 = v1935.1 then
                  if v1935.1 = 0 then
                    gd (inb (0 : Int32) 1) (
                      if (lg_cmp (v1935.2.2 ((0 : Int32)).toNatClampNeg) ((v1953.1).toInt64)) = 0 then
                        fL_law_J1986 N L xs k28 Tn Ta Fn Fa v1935.2.1 Rn Ra Rb Rd Ua Wg Wz Ww Wr v1953.2 Mn Mm Mt Mk Ms Me Mp Mw Ml My v1935.2.2 Od x5
                      else
                        fL_law_J1984 N L xs Tn Ta Fn Fa v1935.2.1 Rn Ra Rb Rd Ua Wg Wz Ww Wr v1953.2 Mn Mm Mt Mk Ms Me Mp Mw Ml My v1935.2.2 Od)
                  else
                    fL_law_J1986 N L xs k28 Tn Ta Fn Fa v1935.2.1 Rn Ra Rb Rd Ua Wg Wz Ww Wr v1953.2 Mn Mm Mt Mk Ms Me Mp Mw Ml My v1935.2.2 Od x5
                else
                  fL_law_J1967 N L xs Tn Ta Fn Fa v1935.2.1 Rn Ra Rb Rd Ua Wg Wz Ww Wr v1953.2 Mn Mm Mt Mk Ms Me Mp Mw Ml My v1935.2.2 Od)))))))
def fL_law_J2054 (N : Nat) (L : Nat) (xs : Nat → Int32) (k28 : Int32 → (Nat → Int32) → Int32 → (Nat → Int32) → (Nat → Int32) → Int32 → (Nat → Int32) → (Nat → Int32) → (Nat → Int32) → (Nat → Int32) → Int32 → Int32 → Int32 → Int32 → Int32 → Int32 → Int32 → (Nat → Int32) → (Nat → Int32) → (Nat → Int32) → (Nat → Int32) → (Nat → Int32) → (Nat → Int32) → (Nat → Int32) → (Nat → Int64) → (Nat → Int64) → (Nat → UInt64) → Int32 → Option Int32) (Tn : Int32) (Ta : (Nat → Int32)) (Fn : Int32) (Fa : (Nat → Int32)) (Ba : (Nat → Int32)) (Rn : Int32) (Ra : (Nat → Int32)) (Rb : (Nat → Int32)) (Rd : (Nat → Int32)) (Ua : (Nat → Int32)) (Wg : Int32) (Wz : Int32) (Ww : Int32) (Wr : Int32) (Mh : Int32) (Mn : Int32) (Mm : Int32) (Mt : (Nat → Int32)) (Mk : (Nat → Int32)) (Ms : (Nat → Int32)) (Me : (Nat → Int32)) (Mp : (Nat → Int32)) (Mw : (Nat → Int32)) (Ml : (Nat → Int32)) (My : (Nat → Int64)) (Oa : (Nat → Int64)) (Od : (Nat → UInt64)) (x5 : Int32) : Option Int32 :=
  fL_law_J2831 N L xs k28 Tn Ta Fn Fa Ba Rn Ra Rb Rd Ua Wg Wz Ww Wr Mh Mn Mm Mt Mk Ms Me Mp Mw Ml My Oa Od x5
def fL_law_J1989 (N : Nat) (L : Nat) (xs : Nat → Int32) (k28 : Int32 → (Nat → Int32) → Int32 → (Nat → Int32) → (Nat → Int32) → Int32 → (Nat → Int32) → (Nat → Int32) → (Nat → Int32) → (Nat → Int32) → Int32 → Int32 → Int32 → Int32 → Int32 → Int32 → Int32 → (Nat → Int32) → (Nat → Int32) → (Nat → Int32) → (Nat → Int32) → (Nat → Int32) → (Nat → Int32) → (Nat → Int32) → (Nat → Int64) → (Nat → Int64) → (Nat → UInt64) → Int32 → Option Int32) (Tn : Int32) (Ta : (Nat → Int32)) (Fn : Int32) (Fa : (Nat → Int32)) (Ba : (Nat → Int32)) (Rn : Int32) (Ra : (Nat → Int32)) (Rb : (Nat → Int32)) (Rd : (Nat → Int32)) (Ua : (Nat → Int32)) (Wg : Int32) (Wz : Int32) (Ww : Int32) (Wr : Int32) (Mh : Int32) (Mn : Int32) (Mm : Int32) (Mt : (Nat → Int32)) (Mk : (Nat → Int32)) (Ms : (Nat → Int32)) (Me : (Nat → Int32)) (Mp : (Nat → Int32)) (Mw : (Nat → Int32)) (Ml : (Nat → Int32)) (My : (Nat → Int64)) (Oa : (Nat → Int64)) (Od : (Nat → UInt64)) (x5 : Int32) : Option Int32 :=
  gd (inb (x5 + (1 : Int32)) L) (
    gd (inb (x5 + (2 : Int32)) L) (
      bn (fL_border N Tn Ta Ba Oa (xs ((x5 + (1 : Int32))).toNatClampNeg) (xs ((x5 + (2 : Int32))).toNatClampNeg)) (fun v2003 =>
        gd (inb (x5 + (1 : Int32)) L) (
          gd (inb (x5 + (2 : Int32)) L) (
            bn (fX9_border N Mh Mn Mm Mt (xs ((x5 + (1 : Int32))).toNatClampNeg) (xs ((x5 + (2 : Int32))).toNatClampNeg)) (fun v2021 =>
              bn (fX9_thrown N v2021.2 Mn Mm) (fun v2027 =>
                if v2027 = v2003.1 then
                  if v2003.1 = 0 then
                    gd (inb (0 : Int32) 1) (
                      if (lg_cmp (v2003.2.2 ((0 : Int32)).toNatClampNeg) ((v2021.1).toInt64)) = 0 then
                        fL_law_J2054 N L xs k28 Tn Ta Fn Fa v2003.2.1 Rn Ra Rb Rd Ua Wg Wz Ww Wr v2021.2 Mn Mm Mt Mk Ms Me Mp Mw Ml My v2003.2.2 Od x5
                      else
                        fL_law_J2052 N L xs Tn Ta Fn Fa v2003.2.1 Rn Ra Rb Rd Ua Wg Wz Ww Wr v2021.2 Mn Mm Mt Mk Ms Me Mp Mw Ml My v2003.2.2 Od)
                  else
                    fL_law_J2054 N L xs k28 Tn Ta Fn Fa v2003.2.1 Rn Ra Rb Rd Ua Wg Wz Ww Wr v2021.2 Mn Mm Mt Mk Ms Me Mp Mw Ml My v2003.2.2 Od x5
                else
                  fL_law_J2035 N L xs Tn Ta Fn Fa v2003.2.1 Rn Ra Rb Rd Ua Wg Wz Ww Wr v2021.2 Mn Mm Mt Mk Ms Me Mp Mw Ml My v2003.2.2 Od)))))))
def fL_law_J2122 (N : Nat) (L : Nat) (xs : Nat → Int32) (k28 : Int32 → (Nat → Int32) → Int32 → (Nat → Int32) → (Nat → Int32) → Int32 → (Nat → Int32) → (Nat → Int32) → (Nat → Int32) → (Nat → Int32) → Int32 → Int32 → Int32 → Int32 → Int32 → Int32 → Int32 → (Nat → Int32) → (Nat → Int32) → (Nat → Int32) → (Nat → Int32) → (Nat → Int32) → (Nat → Int32) → (Nat → Int32) → (Nat → Int64) → (Nat → Int64) → (Nat → UInt64) → Int32 → Option Int32) (Tn : Int32) (Ta : (Nat → Int32)) (Fn : Int32) (Fa : (Nat → Int32)) (Ba : (Nat → Int32)) (Rn : Int32) (Ra : (Nat → Int32)) (Rb : (Nat → Int32)) (Rd : (Nat → Int32)) (Ua : (Nat → Int32)) (Wg : Int32) (Wz : Int32) (Ww : Int32) (Wr : Int32) (Mh : Int32) (Mn : Int32) (Mm : Int32) (Mt : (Nat → Int32)) (Mk : (Nat → Int32)) (Ms : (Nat → Int32)) (Me : (Nat → Int32)) (Mp : (Nat → Int32)) (Mw : (Nat → Int32)) (Ml : (Nat → Int32)) (My : (Nat → Int64)) (Oa : (Nat → Int64)) (Od : (Nat → UInt64)) (x5 : Int32) : Option Int32 :=
  fL_law_J2831 N L xs k28 Tn Ta Fn Fa Ba Rn Ra Rb Rd Ua Wg Wz Ww Wr Mh Mn Mm Mt Mk Ms Me Mp Mw Ml My Oa Od x5
def fL_law_J2057 (N : Nat) (L : Nat) (xs : Nat → Int32) (k28 : Int32 → (Nat → Int32) → Int32 → (Nat → Int32) → (Nat → Int32) → Int32 → (Nat → Int32) → (Nat → Int32) → (Nat → Int32) → (Nat → Int32) → Int32 → Int32 → Int32 → Int32 → Int32 → Int32 → Int32 → (Nat → Int32) → (Nat → Int32) → (Nat → Int32) → (Nat → Int32) → (Nat → Int32) → (Nat → Int32) → (Nat → Int32) → (Nat → Int64) → (Nat → Int64) → (Nat → UInt64) → Int32 → Option Int32) (Tn : Int32) (Ta : (Nat → Int32)) (Fn : Int32) (Fa : (Nat → Int32)) (Ba : (Nat → Int32)) (Rn : Int32) (Ra : (Nat → Int32)) (Rb : (Nat → Int32)) (Rd : (Nat → Int32)) (Ua : (Nat → Int32)) (Wg : Int32) (Wz : Int32) (Ww : Int32) (Wr : Int32) (Mh : Int32) (Mn : Int32) (Mm : Int32) (Mt : (Nat → Int32)) (Mk : (Nat → Int32)) (Ms : (Nat → Int32)) (Me : (Nat → Int32)) (Mp : (Nat → Int32)) (Mw : (Nat → Int32)) (Ml : (Nat → Int32)) (My : (Nat → Int64)) (Oa : (Nat → Int64)) (Od : (Nat → UInt64)) (x5 : Int32) : Option Int32 :=
  gd (inb (x5 + (1 : Int32)) L) (
    gd (inb (x5 + (2 : Int32)) L) (
      bn (fL_rootLength N Tn Ta Ba Oa (xs ((x5 + (1 : Int32))).toNatClampNeg) (xs ((x5 + (2 : Int32))).toNatClampNeg)) (fun v2071 =>
        gd (inb (x5 + (1 : Int32)) L) (
          gd (inb (x5 + (2 : Int32)) L) (
            bn (fX9_rootLength N Mh Mn Mm Mt (xs ((x5 + (1 : Int32))).toNatClampNeg) (xs ((x5 + (2 : Int32))).toNatClampNeg)) (fun v2089 =>
              bn (fX9_thrown N v2089.2 Mn Mm) (fun v2095 =>
                if v2095 = v2071.1 then
                  if v2071.1 = 0 then
                    gd (inb (0 : Int32) 1) (
                      if (lg_cmp (v2071.2.2 ((0 : Int32)).toNatClampNeg) ((v2089.1).toInt64)) = 0 then
                        fL_law_J2122 N L xs k28 Tn Ta Fn Fa v2071.2.1 Rn Ra Rb Rd Ua Wg Wz Ww Wr v2089.2 Mn Mm Mt Mk Ms Me Mp Mw Ml My v2071.2.2 Od x5
                      else
                        fL_law_J2120 N L xs Tn Ta Fn Fa v2071.2.1 Rn Ra Rb Rd Ua Wg Wz Ww Wr v2089.2 Mn Mm Mt Mk Ms Me Mp Mw Ml My v2071.2.2 Od)
                  else
                    fL_law_J2122 N L xs k28 Tn Ta Fn Fa v2071.2.1 Rn Ra Rb Rd Ua Wg Wz Ww Wr v2089.2 Mn Mm Mt Mk Ms Me Mp Mw Ml My v2071.2.2 Od x5
                else
                  fL_law_J2103 N L xs Tn Ta Fn Fa v2071.2.1 Rn Ra Rb Rd Ua Wg Wz Ww Wr v2089.2 Mn Mm Mt Mk Ms Me Mp Mw Ml My v2071.2.2 Od)))))))
def fL_law_J2211 (N : Nat) (L : Nat) (xs : Nat → Int32) (k28 : Int32 → (Nat → Int32) → Int32 → (Nat → Int32) → (Nat → Int32) → Int32 → (Nat → Int32) → (Nat → Int32) → (Nat → Int32) → (Nat → Int32) → Int32 → Int32 → Int32 → Int32 → Int32 → Int32 → Int32 → (Nat → Int32) → (Nat → Int32) → (Nat → Int32) → (Nat → Int32) → (Nat → Int32) → (Nat → Int32) → (Nat → Int32) → (Nat → Int64) → (Nat → Int64) → (Nat → UInt64) → Int32 → Option Int32) (Tn : Int32) (Ta : (Nat → Int32)) (Fn : Int32) (Fa : (Nat → Int32)) (Ba : (Nat → Int32)) (Rn : Int32) (Ra : (Nat → Int32)) (Rb : (Nat → Int32)) (Rd : (Nat → Int32)) (Ua : (Nat → Int32)) (Wg : Int32) (Wz : Int32) (Ww : Int32) (Wr : Int32) (Mh : Int32) (Mn : Int32) (Mm : Int32) (Mt : (Nat → Int32)) (Mk : (Nat → Int32)) (Ms : (Nat → Int32)) (Me : (Nat → Int32)) (Mp : (Nat → Int32)) (Mw : (Nat → Int32)) (Ml : (Nat → Int32)) (My : (Nat → Int64)) (Oa : (Nat → Int64)) (Od : (Nat → UInt64)) (x5 : Int32) : Option Int32 :=
  fL_law_J2831 N L xs k28 Tn Ta Fn Fa Ba Rn Ra Rb Rd Ua Wg Wz Ww Wr Mh Mn Mm Mt Mk Ms Me Mp Mw Ml My Oa Od x5
def fL_law_J2125 (N : Nat) (L : Nat) (xs : Nat → Int32) (k28 : Int32 → (Nat → Int32) → Int32 → (Nat → Int32) → (Nat → Int32) → Int32 → (Nat → Int32) → (Nat → Int32) → (Nat → Int32) → (Nat → Int32) → Int32 → Int32 → Int32 → Int32 → Int32 → Int32 → Int32 → (Nat → Int32) → (Nat → Int32) → (Nat → Int32) → (Nat → Int32) → (Nat → Int32) → (Nat → Int32) → (Nat → Int32) → (Nat → Int64) → (Nat → Int64) → (Nat → UInt64) → Int32 → Option Int32) (Tn : Int32) (Ta : (Nat → Int32)) (Fn : Int32) (Fa : (Nat → Int32)) (Ba : (Nat → Int32)) (Rn : Int32) (Ra : (Nat → Int32)) (Rb : (Nat → Int32)) (Rd : (Nat → Int32)) (Ua : (Nat → Int32)) (Wg : Int32) (Wz : Int32) (Ww : Int32) (Wr : Int32) (Mh : Int32) (Mn : Int32) (Mm : Int32) (Mt : (Nat → Int32)) (Mk : (Nat → Int32)) (Ms : (Nat → Int32)) (Me : (Nat → Int32)) (Mp : (Nat → Int32)) (Mw : (Nat → Int32)) (Ml : (Nat → Int32)) (My : (Nat → Int64)) (Oa : (Nat → Int64)) (Od : (Nat → UInt64)) (x5 : Int32) : Option Int32 :=
  gd (inb (x5 + (1 : Int32)) L) (
    gd (inb (x5 + (2 : Int32)) L) (
      bn (fL_exponent N Tn Ta Ba Od (xs ((x5 + (1 : Int32))).toNatClampNeg) (xs ((x5 + (2 : Int32))).toNatClampNeg)) (fun v2140 =>
        gd (inb (x5 + (1 : Int32)) L) (
          gd (inb (x5 + (2 : Int32)) L) (
            bn (fX9_exponent N Mh Mn Mm Mt (xs ((x5 + (1 : Int32))).toNatClampNeg) (xs ((x5 + (2 : Int32))).toNatClampNeg)) (fun v2158 =>
              bn (fX9_thrown N v2158.2 Mn Mm) (fun v2164 =>
                if v2164 = v2140.1 then
                  if v2140.1 = 0 then
                    gd (inb (0 : Int32) 1) (
                      if (Op.cmpValue (FP.dcmp (v2140.2.2 ((0 : Int32)).toNatClampNeg) v2158.1) CmpOp.l) = 0 then
                        fL_law_J2211 N L xs k28 Tn Ta Fn Fa v2140.2.1 Rn Ra Rb Rd Ua Wg Wz Ww Wr v2158.2 Mn Mm Mt Mk Ms Me Mp Mw Ml My Oa v2140.2.2 x5
                      else
                        gd (inb (0 : Int32) 1) (
                          gd (inb (0 : Int32) 1) (
                            if (Op.cmpValue (FP.dcmp (v2140.2.2 ((0 : Int32)).toNatClampNeg) (v2140.2.2 ((0 : Int32)).toNatClampNeg)) CmpOp.l) = 0 then
                              fL_law_J2209 N L xs Tn Ta Fn Fa v2140.2.1 Rn Ra Rb Rd Ua Wg Wz Ww Wr v2158.2 Mn Mm Mt Mk Ms Me Mp Mw Ml My Oa v2140.2.2
                            else
                              if (Op.cmpValue (FP.dcmp v2158.1 v2158.1) CmpOp.l) = 0 then
                                fL_law_J2209 N L xs Tn Ta Fn Fa v2140.2.1 Rn Ra Rb Rd Ua Wg Wz Ww Wr v2158.2 Mn Mm Mt Mk Ms Me Mp Mw Ml My Oa v2140.2.2
                              else
                                fL_law_J2211 N L xs k28 Tn Ta Fn Fa v2140.2.1 Rn Ra Rb Rd Ua Wg Wz Ww Wr v2158.2 Mn Mm Mt Mk Ms Me Mp Mw Ml My Oa v2140.2.2 x5)))
                  else
                    fL_law_J2211 N L xs k28 Tn Ta Fn Fa v2140.2.1 Rn Ra Rb Rd Ua Wg Wz Ww Wr v2158.2 Mn Mm Mt Mk Ms Me Mp Mw Ml My Oa v2140.2.2 x5
                else
                  fL_law_J2172 N L xs Tn Ta Fn Fa v2140.2.1 Rn Ra Rb Rd Ua Wg Wz Ww Wr v2158.2 Mn Mm Mt Mk Ms Me Mp Mw Ml My Oa v2140.2.2)))))))
def fL_law_J2214 (N : Nat) (L : Nat) (xs : Nat → Int32) (k28 : Int32 → (Nat → Int32) → Int32 → (Nat → Int32) → (Nat → Int32) → Int32 → (Nat → Int32) → (Nat → Int32) → (Nat → Int32) → (Nat → Int32) → Int32 → Int32 → Int32 → Int32 → Int32 → Int32 → Int32 → (Nat → Int32) → (Nat → Int32) → (Nat → Int32) → (Nat → Int32) → (Nat → Int32) → (Nat → Int32) → (Nat → Int32) → (Nat → Int64) → (Nat → Int64) → (Nat → UInt64) → Int32 → Option Int32) (Tn : Int32) (Ta : (Nat → Int32)) (Fn : Int32) (Fa : (Nat → Int32)) (Ba : (Nat → Int32)) (Rn : Int32) (Ra : (Nat → Int32)) (Rb : (Nat → Int32)) (Rd : (Nat → Int32)) (Ua : (Nat → Int32)) (Wg : Int32) (Wz : Int32) (Ww : Int32) (Wr : Int32) (Mh : Int32) (Mn : Int32) (Mm : Int32) (Mt : (Nat → Int32)) (Mk : (Nat → Int32)) (Ms : (Nat → Int32)) (Me : (Nat → Int32)) (Mp : (Nat → Int32)) (Mw : (Nat → Int32)) (Ml : (Nat → Int32)) (My : (Nat → Int64)) (Oa : (Nat → Int64)) (Od : (Nat → UInt64)) (x5 : Int32) : Option Int32 :=
  bn (fX8_runs N Tn Ta Rn Ra Rb Rd) (fun v2215 =>
    bn (fX9_runs N Mh Mn Mm Mt Ms Me Mp) (fun v2219 =>
      if v2215.1 = v2219.1 then
        fL_law_J2831 N L xs k28 Tn Ta Fn Fa Ba v2215.2.1 v2215.2.2.1 v2215.2.2.2.1 v2215.2.2.2.2 Ua Wg Wz Ww Wr v2219.2.1 Mn v2219.2.2.1 Mt Mk v2219.2.2.2.1 v2219.2.2.2.2.1 v2219.2.2.2.2.2 Mw Ml My Oa Od x5
      else
        fL_law_J2225 N L xs Tn Ta Fn Fa Ba v2215.2.1 v2215.2.2.1 v2215.2.2.2.1 v2215.2.2.2.2 Ua Wg Wz Ww Wr v2219.2.1 Mn v2219.2.2.1 Mt Mk v2219.2.2.2.1 v2219.2.2.2.2.1 v2219.2.2.2.2.2 Mw Ml My Oa Od))
def fL_law_J2280 (N : Nat) (L : Nat) (xs : Nat → Int32) (k28 : Int32 → (Nat → Int32) → Int32 → (Nat → Int32) → (Nat → Int32) → Int32 → (Nat → Int32) → (Nat → Int32) → (Nat → Int32) → (Nat → Int32) → Int32 → Int32 → Int32 → Int32 → Int32 → Int32 → Int32 → (Nat → Int32) → (Nat → Int32) → (Nat → Int32) → (Nat → Int32) → (Nat → Int32) → (Nat → Int32) → (Nat → Int32) → (Nat → Int64) → (Nat → Int64) → (Nat → UInt64) → Int32 → Option Int32) (Tn : Int32) (Ta : (Nat → Int32)) (Fn : Int32) (Fa : (Nat → Int32)) (Ba : (Nat → Int32)) (Rn : Int32) (Ra : (Nat → Int32)) (Rb : (Nat → Int32)) (Rd : (Nat → Int32)) (Ua : (Nat → Int32)) (Wg : Int32) (Wz : Int32) (Ww : Int32) (Wr : Int32) (Mh : Int32) (Mn : Int32) (Mm : Int32) (Mt : (Nat → Int32)) (Mk : (Nat → Int32)) (Ms : (Nat → Int32)) (Me : (Nat → Int32)) (Mp : (Nat → Int32)) (Mw : (Nat → Int32)) (Ml : (Nat → Int32)) (My : (Nat → Int64)) (Oa : (Nat → Int64)) (Od : (Nat → UInt64)) (x5 : Int32) : Option Int32 :=
  fL_law_J2831 N L xs k28 Tn Ta Fn Fa Ba Rn Ra Rb Rd Ua Wg Wz Ww Wr Mh Mn Mm Mt Mk Ms Me Mp Mw Ml My Oa Od x5
def fL_law_J2227 (N : Nat) (L : Nat) (xs : Nat → Int32) (k28 : Int32 → (Nat → Int32) → Int32 → (Nat → Int32) → (Nat → Int32) → Int32 → (Nat → Int32) → (Nat → Int32) → (Nat → Int32) → (Nat → Int32) → Int32 → Int32 → Int32 → Int32 → Int32 → Int32 → Int32 → (Nat → Int32) → (Nat → Int32) → (Nat → Int32) → (Nat → Int32) → (Nat → Int32) → (Nat → Int32) → (Nat → Int32) → (Nat → Int64) → (Nat → Int64) → (Nat → UInt64) → Int32 → Option Int32) (Tn : Int32) (Ta : (Nat → Int32)) (Fn : Int32) (Fa : (Nat → Int32)) (Ba : (Nat → Int32)) (Rn : Int32) (Ra : (Nat → Int32)) (Rb : (Nat → Int32)) (Rd : (Nat → Int32)) (Ua : (Nat → Int32)) (Wg : Int32) (Wz : Int32) (Ww : Int32) (Wr : Int32) (Mh : Int32) (Mn : Int32) (Mm : Int32) (Mt : (Nat → Int32)) (Mk : (Nat → Int32)) (Ms : (Nat → Int32)) (Me : (Nat → Int32)) (Mp : (Nat → Int32)) (Mw : (Nat → Int32)) (Ml : (Nat → Int32)) (My : (Nat → Int64)) (Oa : (Nat → Int64)) (Od : (Nat → UInt64)) (x5 : Int32) : Option Int32 :=
  gd (inb (x5 + (1 : Int32)) L) (
    bn (fL_runStart N Tn Ta Rn Ra Rb Rd Oa (xs ((x5 + (1 : Int32))).toNatClampNeg)) (fun v2235 =>
      gd (inb (x5 + (1 : Int32)) L) (
        bn (fX9_runStart N Mh Mn Mm Mt Ms Me Mp (xs ((x5 + (1 : Int32))).toNatClampNeg)) (fun v2247 =>
          bn (fX9_thrown N v2247.2.1 Mn v2247.2.2.1) (fun v2253 =>
            if v2253 = v2235.1 then
              if v2235.1 = 0 then
                gd (inb (0 : Int32) 1) (
                  if (lg_cmp (v2235.2.2.2.2.2 ((0 : Int32)).toNatClampNeg) ((v2247.1).toInt64)) = 0 then
                    fL_law_J2280 N L xs k28 Tn Ta Fn Fa Ba v2235.2.1 v2235.2.2.1 v2235.2.2.2.1 v2235.2.2.2.2.1 Ua Wg Wz Ww Wr v2247.2.1 Mn v2247.2.2.1 Mt Mk v2247.2.2.2.1 v2247.2.2.2.2.1 v2247.2.2.2.2.2 Mw Ml My v2235.2.2.2.2.2 Od x5
                  else
                    fL_law_J2278 N L xs Tn Ta Fn Fa Ba v2235.2.1 v2235.2.2.1 v2235.2.2.2.1 v2235.2.2.2.2.1 Ua Wg Wz Ww Wr v2247.2.1 Mn v2247.2.2.1 Mt Mk v2247.2.2.2.1 v2247.2.2.2.2.1 v2247.2.2.2.2.2 Mw Ml My v2235.2.2.2.2.2 Od)
              else
                fL_law_J2280 N L xs k28 Tn Ta Fn Fa Ba v2235.2.1 v2235.2.2.1 v2235.2.2.2.1 v2235.2.2.2.2.1 Ua Wg Wz Ww Wr v2247.2.1 Mn v2247.2.2.1 Mt Mk v2247.2.2.2.1 v2247.2.2.2.2.1 v2247.2.2.2.2.2 Mw Ml My v2235.2.2.2.2.2 Od x5
            else
              fL_law_J2261 N L xs Tn Ta Fn Fa Ba v2235.2.1 v2235.2.2.1 v2235.2.2.2.1 v2235.2.2.2.2.1 Ua Wg Wz Ww Wr v2247.2.1 Mn v2247.2.2.1 Mt Mk v2247.2.2.2.1 v2247.2.2.2.2.1 v2247.2.2.2.2.2 Mw Ml My v2235.2.2.2.2.2 Od)))))
def fL_law_J2336 (N : Nat) (L : Nat) (xs : Nat → Int32) (k28 : Int32 → (Nat → Int32) → Int32 → (Nat → Int32) → (Nat → Int32) → Int32 → (Nat → Int32) → (Nat → Int32) → (Nat → Int32) → (Nat → Int32) → Int32 → Int32 → Int32 → Int32 → Int32 → Int32 → Int32 → (Nat → Int32) → (Nat → Int32) → (Nat → Int32) → (Nat → Int32) → (Nat → Int32) → (Nat → Int32) → (Nat → Int32) → (Nat → Int64) → (Nat → Int64) → (Nat → UInt64) → Int32 → Option Int32) (Tn : Int32) (Ta : (Nat → Int32)) (Fn : Int32) (Fa : (Nat → Int32)) (Ba : (Nat → Int32)) (Rn : Int32) (Ra : (Nat → Int32)) (Rb : (Nat → Int32)) (Rd : (Nat → Int32)) (Ua : (Nat → Int32)) (Wg : Int32) (Wz : Int32) (Ww : Int32) (Wr : Int32) (Mh : Int32) (Mn : Int32) (Mm : Int32) (Mt : (Nat → Int32)) (Mk : (Nat → Int32)) (Ms : (Nat → Int32)) (Me : (Nat → Int32)) (Mp : (Nat → Int32)) (Mw : (Nat → Int32)) (Ml : (Nat → Int32)) (My : (Nat → Int64)) (Oa : (Nat → Int64)) (Od : (Nat → UInt64)) (x5 : Int32) : Option Int32 :=
  fL_law_J2831 N L xs k28 Tn Ta Fn Fa Ba Rn Ra Rb Rd Ua Wg Wz Ww Wr Mh Mn Mm Mt Mk Ms Me Mp Mw Ml My Oa Od x5
def fL_law_J2283 (N : Nat) (L : Nat) (xs : Nat → Int32) (k28 : Int32 → (Nat → Int32) → Int32 → (Nat → Int32) → (Nat → Int32) → Int32 → (Nat → Int32) → (Nat → Int32) → (Nat → Int32) → (Nat → Int32) → Int32 → Int32 → Int32 → Int32 → Int32 → Int32 → Int32 → (Nat → Int32) → (Nat → Int32) → (Nat → Int32) → (Nat → Int32) → (Nat → Int32) → (Nat → Int32) → (Nat → Int32) → (Nat → Int64) → (Nat → Int64) → (Nat → UInt64) → Int32 → Option Int32) (Tn : Int32) (Ta : (Nat → Int32)) (Fn : Int32) (Fa : (Nat → Int32)) (Ba : (Nat → Int32)) (Rn : Int32) (Ra : (Nat → Int32)) (Rb : (Nat → Int32)) (Rd : (Nat → Int32)) (Ua : (Nat → Int32)) (Wg : Int32) (Wz : Int32) (Ww : Int32) (Wr : Int32) (Mh : Int32) (Mn : Int32) (Mm : Int32) (Mt : (Nat → Int32)) (Mk : (Nat → Int32)) (Ms : (Nat → Int32)) (Me : (Nat → Int32)) (Mp : (Nat → Int32)) (Mw : (Nat → Int32)) (Ml : (Nat → Int32)) (My : (Nat → Int64)) (Oa : (Nat → Int64)) (Od : (Nat → UInt64)) (x5 : Int32) : Option Int32 :=
  gd (inb (x5 + (1 : Int32)) L) (
    bn (fL_runEnd N Tn Ta Rn Ra Rb Rd Oa (xs ((x5 + (1 : Int32))).toNatClampNeg)) (fun v2291 =>
      gd (inb (x5 + (1 : Int32)) L) (
        bn (fX9_runEnd N Mh Mn Mm Mt Ms Me Mp (xs ((x5 + (1 : Int32))).toNatClampNeg)) (fun v2303 =>
          bn (fX9_thrown N v2303.2.1 Mn v2303.2.2.1) (fun v2309 =>
            if v2309 = v2291.1 then
              if v2291.1 = 0 then
                gd (inb (0 : Int32) 1) (
                  if (lg_cmp (v2291.2.2.2.2.2 ((0 : Int32)).toNatClampNeg) ((v2303.1).toInt64)) = 0 then
                    fL_law_J2336 N L xs k28 Tn Ta Fn Fa Ba v2291.2.1 v2291.2.2.1 v2291.2.2.2.1 v2291.2.2.2.2.1 Ua Wg Wz Ww Wr v2303.2.1 Mn v2303.2.2.1 Mt Mk v2303.2.2.2.1 v2303.2.2.2.2.1 v2303.2.2.2.2.2 Mw Ml My v2291.2.2.2.2.2 Od x5
                  else
                    fL_law_J2334 N L xs Tn Ta Fn Fa Ba v2291.2.1 v2291.2.2.1 v2291.2.2.2.1 v2291.2.2.2.2.1 Ua Wg Wz Ww Wr v2303.2.1 Mn v2303.2.2.1 Mt Mk v2303.2.2.2.1 v2303.2.2.2.2.1 v2303.2.2.2.2.2 Mw Ml My v2291.2.2.2.2.2 Od)
              else
                fL_law_J2336 N L xs k28 Tn Ta Fn Fa Ba v2291.2.1 v2291.2.2.1 v2291.2.2.2.1 v2291.2.2.2.2.1 Ua Wg Wz Ww Wr v2303.2.1 Mn v2303.2.2.1 Mt Mk v2303.2.2.2.1 v2303.2.2.2.2.1 v2303.2.2.2.2.2 Mw Ml My v2291.2.2.2.2.2 Od x5
            else
              fL_law_J2317 N L xs Tn Ta Fn Fa Ba v2291.2.1 v2291.2.2.1 v2291.2.2.2.1 v2291.2.2.2.2.1 Ua Wg Wz Ww Wr v2303.2.1 Mn v2303.2.2.1 Mt Mk v2303.2.2.2.1 v2303.2.2.2.2.1 v2303.2.2.2.2.2 Mw Ml My v2291.2.2.2.2.2 Od)))))
def fL_law_J2392 (N : Nat) (L : Nat) (xs : Nat → Int32) (k28 : Int32 → (Nat → Int32) → Int32 → (Nat → Int32) → (Nat → Int32) → Int32 → (Nat → Int32) → (Nat → Int32) → (Nat → Int32) → (Nat → Int32) → Int32 → Int32 → Int32 → Int32 → Int32 → Int32 → Int32 → (Nat → Int32) → (Nat → Int32) → (Nat → Int32) → (Nat → Int32) → (Nat → Int32) → (Nat → Int32) → (Nat → Int32) → (Nat → Int64) → (Nat → Int64) → (Nat → UInt64) → Int32 → Option Int32) (Tn : Int32) (Ta : (Nat → Int32)) (Fn : Int32) (Fa : (Nat → Int32)) (Ba : (Nat → Int32)) (Rn : Int32) (Ra : (Nat → Int32)) (Rb : (Nat → Int32)) (Rd : (Nat → Int32)) (Ua : (Nat → Int32)) (Wg : Int32) (Wz : Int32) (Ww : Int32) (Wr : Int32) (Mh : Int32) (Mn : Int32) (Mm : Int32) (Mt : (Nat → Int32)) (Mk : (Nat → Int32)) (Ms : (Nat → Int32)) (Me : (Nat → Int32)) (Mp : (Nat → Int32)) (Mw : (Nat → Int32)) (Ml : (Nat → Int32)) (My : (Nat → Int64)) (Oa : (Nat → Int64)) (Od : (Nat → UInt64)) (x5 : Int32) : Option Int32 :=
  fL_law_J2831 N L xs k28 Tn Ta Fn Fa Ba Rn Ra Rb Rd Ua Wg Wz Ww Wr Mh Mn Mm Mt Mk Ms Me Mp Mw Ml My Oa Od x5
def fL_law_J2339 (N : Nat) (L : Nat) (xs : Nat → Int32) (k28 : Int32 → (Nat → Int32) → Int32 → (Nat → Int32) → (Nat → Int32) → Int32 → (Nat → Int32) → (Nat → Int32) → (Nat → Int32) → (Nat → Int32) → Int32 → Int32 → Int32 → Int32 → Int32 → Int32 → Int32 → (Nat → Int32) → (Nat → Int32) → (Nat → Int32) → (Nat → Int32) → (Nat → Int32) → (Nat → Int32) → (Nat → Int32) → (Nat → Int64) → (Nat → Int64) → (Nat → UInt64) → Int32 → Option Int32) (Tn : Int32) (Ta : (Nat → Int32)) (Fn : Int32) (Fa : (Nat → Int32)) (Ba : (Nat → Int32)) (Rn : Int32) (Ra : (Nat → Int32)) (Rb : (Nat → Int32)) (Rd : (Nat → Int32)) (Ua : (Nat → Int32)) (Wg : Int32) (Wz : Int32) (Ww : Int32) (Wr : Int32) (Mh : Int32) (Mn : Int32) (Mm : Int32) (Mt : (Nat → Int32)) (Mk : (Nat → Int32)) (Ms : (Nat → Int32)) (Me : (Nat → Int32)) (Mp : (Nat → Int32)) (Mw : (Nat → Int32)) (Ml : (Nat → Int32)) (My : (Nat → Int64)) (Oa : (Nat → Int64)) (Od : (Nat → UInt64)) (x5 : Int32) : Option Int32 :=
  gd (inb (x5 + (1 : Int32)) L) (
    bn (fL_runPeriod N Tn Ta Rn Ra Rb Rd Oa (xs ((x5 + (1 : Int32))).toNatClampNeg)) (fun v2347 =>
      gd (inb (x5 + (1 : Int32)) L) (
        bn (fX9_runPeriod N Mh Mn Mm Mt Ms Me Mp (xs ((x5 + (1 : Int32))).toNatClampNeg)) (fun v2359 =>
          bn (fX9_thrown N v2359.2.1 Mn v2359.2.2.1) (fun v2365 =>
            if v2365 = v2347.1 then
              if v2347.1 = 0 then
                gd (inb (0 : Int32) 1) (
                  if (lg_cmp (v2347.2.2.2.2.2 ((0 : Int32)).toNatClampNeg) ((v2359.1).toInt64)) = 0 then
                    fL_law_J2392 N L xs k28 Tn Ta Fn Fa Ba v2347.2.1 v2347.2.2.1 v2347.2.2.2.1 v2347.2.2.2.2.1 Ua Wg Wz Ww Wr v2359.2.1 Mn v2359.2.2.1 Mt Mk v2359.2.2.2.1 v2359.2.2.2.2.1 v2359.2.2.2.2.2 Mw Ml My v2347.2.2.2.2.2 Od x5
                  else
                    fL_law_J2390 N L xs Tn Ta Fn Fa Ba v2347.2.1 v2347.2.2.1 v2347.2.2.2.1 v2347.2.2.2.2.1 Ua Wg Wz Ww Wr v2359.2.1 Mn v2359.2.2.1 Mt Mk v2359.2.2.2.1 v2359.2.2.2.2.1 v2359.2.2.2.2.2 Mw Ml My v2347.2.2.2.2.2 Od)
              else
                fL_law_J2392 N L xs k28 Tn Ta Fn Fa Ba v2347.2.1 v2347.2.2.1 v2347.2.2.2.1 v2347.2.2.2.2.1 Ua Wg Wz Ww Wr v2359.2.1 Mn v2359.2.2.1 Mt Mk v2359.2.2.2.1 v2359.2.2.2.2.1 v2359.2.2.2.2.2 Mw Ml My v2347.2.2.2.2.2 Od x5
            else
              fL_law_J2373 N L xs Tn Ta Fn Fa Ba v2347.2.1 v2347.2.2.1 v2347.2.2.2.1 v2347.2.2.2.2.1 Ua Wg Wz Ww Wr v2359.2.1 Mn v2359.2.2.1 Mt Mk v2359.2.2.2.1 v2359.2.2.2.2.1 v2359.2.2.2.2.2 Mw Ml My v2347.2.2.2.2.2 Od)))))
def fL_law_J2448 (N : Nat) (L : Nat) (xs : Nat → Int32) (k28 : Int32 → (Nat → Int32) → Int32 → (Nat → Int32) → (Nat → Int32) → Int32 → (Nat → Int32) → (Nat → Int32) → (Nat → Int32) → (Nat → Int32) → Int32 → Int32 → Int32 → Int32 → Int32 → Int32 → Int32 → (Nat → Int32) → (Nat → Int32) → (Nat → Int32) → (Nat → Int32) → (Nat → Int32) → (Nat → Int32) → (Nat → Int32) → (Nat → Int64) → (Nat → Int64) → (Nat → UInt64) → Int32 → Option Int32) (Tn : Int32) (Ta : (Nat → Int32)) (Fn : Int32) (Fa : (Nat → Int32)) (Ba : (Nat → Int32)) (Rn : Int32) (Ra : (Nat → Int32)) (Rb : (Nat → Int32)) (Rd : (Nat → Int32)) (Ua : (Nat → Int32)) (Wg : Int32) (Wz : Int32) (Ww : Int32) (Wr : Int32) (Mh : Int32) (Mn : Int32) (Mm : Int32) (Mt : (Nat → Int32)) (Mk : (Nat → Int32)) (Ms : (Nat → Int32)) (Me : (Nat → Int32)) (Mp : (Nat → Int32)) (Mw : (Nat → Int32)) (Ml : (Nat → Int32)) (My : (Nat → Int64)) (Oa : (Nat → Int64)) (Od : (Nat → UInt64)) (x5 : Int32) : Option Int32 :=
  fL_law_J2831 N L xs k28 Tn Ta Fn Fa Ba Rn Ra Rb Rd Ua Wg Wz Ww Wr Mh Mn Mm Mt Mk Ms Me Mp Mw Ml My Oa Od x5
def fL_law_J2395 (N : Nat) (L : Nat) (xs : Nat → Int32) (k28 : Int32 → (Nat → Int32) → Int32 → (Nat → Int32) → (Nat → Int32) → Int32 → (Nat → Int32) → (Nat → Int32) → (Nat → Int32) → (Nat → Int32) → Int32 → Int32 → Int32 → Int32 → Int32 → Int32 → Int32 → (Nat → Int32) → (Nat → Int32) → (Nat → Int32) → (Nat → Int32) → (Nat → Int32) → (Nat → Int32) → (Nat → Int32) → (Nat → Int64) → (Nat → Int64) → (Nat → UInt64) → Int32 → Option Int32) (Tn : Int32) (Ta : (Nat → Int32)) (Fn : Int32) (Fa : (Nat → Int32)) (Ba : (Nat → Int32)) (Rn : Int32) (Ra : (Nat → Int32)) (Rb : (Nat → Int32)) (Rd : (Nat → Int32)) (Ua : (Nat → Int32)) (Wg : Int32) (Wz : Int32) (Ww : Int32) (Wr : Int32) (Mh : Int32) (Mn : Int32) (Mm : Int32) (Mt : (Nat → Int32)) (Mk : (Nat → Int32)) (Ms : (Nat → Int32)) (Me : (Nat → Int32)) (Mp : (Nat → Int32)) (Mw : (Nat → Int32)) (Ml : (Nat → Int32)) (My : (Nat → Int64)) (Oa : (Nat → Int64)) (Od : (Nat → UInt64)) (x5 : Int32) : Option Int32 :=
  gd (inb (x5 + (1 : Int32)) L) (
    bn (fL_runsOver N Tn Ta Rn Ra Rb Rd Oa (xs ((x5 + (1 : Int32))).toNatClampNeg)) (fun v2403 =>
      gd (inb (x5 + (1 : Int32)) L) (
        bn (fX9_runsOver N Mh Mn Mm Mt Ms Me Mp (xs ((x5 + (1 : Int32))).toNatClampNeg)) (fun v2415 =>
          bn (fX9_thrown N v2415.2.1 Mn v2415.2.2.1) (fun v2421 =>
            if v2421 = v2403.1 then
              if v2403.1 = 0 then
                gd (inb (0 : Int32) 1) (
                  if (lg_cmp (v2403.2.2.2.2.2 ((0 : Int32)).toNatClampNeg) ((v2415.1).toInt64)) = 0 then
                    fL_law_J2448 N L xs k28 Tn Ta Fn Fa Ba v2403.2.1 v2403.2.2.1 v2403.2.2.2.1 v2403.2.2.2.2.1 Ua Wg Wz Ww Wr v2415.2.1 Mn v2415.2.2.1 Mt Mk v2415.2.2.2.1 v2415.2.2.2.2.1 v2415.2.2.2.2.2 Mw Ml My v2403.2.2.2.2.2 Od x5
                  else
                    fL_law_J2446 N L xs Tn Ta Fn Fa Ba v2403.2.1 v2403.2.2.1 v2403.2.2.2.1 v2403.2.2.2.2.1 Ua Wg Wz Ww Wr v2415.2.1 Mn v2415.2.2.1 Mt Mk v2415.2.2.2.1 v2415.2.2.2.2.1 v2415.2.2.2.2.2 Mw Ml My v2403.2.2.2.2.2 Od)
              else
                fL_law_J2448 N L xs k28 Tn Ta Fn Fa Ba v2403.2.1 v2403.2.2.1 v2403.2.2.2.1 v2403.2.2.2.2.1 Ua Wg Wz Ww Wr v2415.2.1 Mn v2415.2.2.1 Mt Mk v2415.2.2.2.1 v2415.2.2.2.2.1 v2415.2.2.2.2.2 Mw Ml My v2403.2.2.2.2.2 Od x5
            else
              fL_law_J2429 N L xs Tn Ta Fn Fa Ba v2403.2.1 v2403.2.2.1 v2403.2.2.2.1 v2403.2.2.2.2.1 Ua Wg Wz Ww Wr v2415.2.1 Mn v2415.2.2.1 Mt Mk v2415.2.2.2.1 v2415.2.2.2.2.1 v2415.2.2.2.2.2 Mw Ml My v2403.2.2.2.2.2 Od)))))
def fL_law_J2489 (N : Nat) (L : Nat) (xs : Nat → Int32) (k28 : Int32 → (Nat → Int32) → Int32 → (Nat → Int32) → (Nat → Int32) → Int32 → (Nat → Int32) → (Nat → Int32) → (Nat → Int32) → (Nat → Int32) → Int32 → Int32 → Int32 → Int32 → Int32 → Int32 → Int32 → (Nat → Int32) → (Nat → Int32) → (Nat → Int32) → (Nat → Int32) → (Nat → Int32) → (Nat → Int32) → (Nat → Int32) → (Nat → Int64) → (Nat → Int64) → (Nat → UInt64) → Int32 → Option Int32) (Tn : Int32) (Ta : (Nat → Int32)) (Fn : Int32) (Fa : (Nat → Int32)) (Ba : (Nat → Int32)) (Rn : Int32) (Ra : (Nat → Int32)) (Rb : (Nat → Int32)) (Rd : (Nat → Int32)) (Ua : (Nat → Int32)) (Wg : Int32) (Wz : Int32) (Ww : Int32) (Wr : Int32) (Mh : Int32) (Mn : Int32) (Mm : Int32) (Mt : (Nat → Int32)) (Mk : (Nat → Int32)) (Ms : (Nat → Int32)) (Me : (Nat → Int32)) (Mp : (Nat → Int32)) (Mw : (Nat → Int32)) (Ml : (Nat → Int32)) (My : (Nat → Int64)) (Oa : (Nat → Int64)) (Od : (Nat → UInt64)) (x5 : Int32) : Option Int32 :=
  fL_law_J2831 N L xs k28 Tn Ta Fn Fa Ba Rn Ra Rb Rd Ua Wg Wz Ww Wr Mh Mn Mm Mt Mk Ms Me Mp Mw Ml My Oa Od x5
def fL_law_J2451 (N : Nat) (L : Nat) (xs : Nat → Int32) (k28 : Int32 → (Nat → Int32) → Int32 → (Nat → Int32) → (Nat → Int32) → Int32 → (Nat → Int32) → (Nat → Int32) → (Nat → Int32) → (Nat → Int32) → Int32 → Int32 → Int32 → Int32 → Int32 → Int32 → Int32 → (Nat → Int32) → (Nat → Int32) → (Nat → Int32) → (Nat → Int32) → (Nat → Int32) → (Nat → Int32) → (Nat → Int32) → (Nat → Int64) → (Nat → Int64) → (Nat → UInt64) → Int32 → Option Int32) (Tn : Int32) (Ta : (Nat → Int32)) (Fn : Int32) (Fa : (Nat → Int32)) (Ba : (Nat → Int32)) (Rn : Int32) (Ra : (Nat → Int32)) (Rb : (Nat → Int32)) (Rd : (Nat → Int32)) (Ua : (Nat → Int32)) (Wg : Int32) (Wz : Int32) (Ww : Int32) (Wr : Int32) (Mh : Int32) (Mn : Int32) (Mm : Int32) (Mt : (Nat → Int32)) (Mk : (Nat → Int32)) (Ms : (Nat → Int32)) (Me : (Nat → Int32)) (Mp : (Nat → Int32)) (Mw : (Nat → Int32)) (Ml : (Nat → Int32)) (My : (Nat → Int64)) (Oa : (Nat → Int64)) (Od : (Nat → UInt64)) (x5 : Int32) : Option Int32 :=
  bn (fX8_exponentsOfRuns N Tn Ta Rn Ra Rb Rd) (fun v2452 =>
    bn (fX9_exponentsOfRuns N Mh Mn Mm Mt Ms Me Mp) (fun v2458 =>
      if (Op.cmpValue (FP.dcmp v2452.1 v2458.1) CmpOp.l) = 0 then
        fL_law_J2489 N L xs k28 Tn Ta Fn Fa Ba v2452.2.1 v2452.2.2.1 v2452.2.2.2.1 v2452.2.2.2.2 Ua Wg Wz Ww Wr v2458.2.1 Mn v2458.2.2.1 Mt Mk v2458.2.2.2.1 v2458.2.2.2.2.1 v2458.2.2.2.2.2 Mw Ml My Oa Od x5
      else
        if (Op.cmpValue (FP.dcmp v2452.1 v2452.1) CmpOp.l) = 0 then
          fL_law_J2487 N L xs Tn Ta Fn Fa Ba v2452.2.1 v2452.2.2.1 v2452.2.2.2.1 v2452.2.2.2.2 Ua Wg Wz Ww Wr v2458.2.1 Mn v2458.2.2.1 Mt Mk v2458.2.2.2.1 v2458.2.2.2.2.1 v2458.2.2.2.2.2 Mw Ml My Oa Od
        else
          if (Op.cmpValue (FP.dcmp v2458.1 v2458.1) CmpOp.l) = 0 then
            fL_law_J2487 N L xs Tn Ta Fn Fa Ba v2452.2.1 v2452.2.2.1 v2452.2.2.2.1 v2452.2.2.2.2 Ua Wg Wz Ww Wr v2458.2.1 Mn v2458.2.2.1 Mt Mk v2458.2.2.2.1 v2458.2.2.2.2.1 v2458.2.2.2.2.2 Mw Ml My Oa Od
          else
            fL_law_J2489 N L xs k28 Tn Ta Fn Fa Ba v2452.2.1 v2452.2.2.1 v2452.2.2.2.1 v2452.2.2.2.2 Ua Wg Wz Ww Wr v2458.2.1 Mn v2458.2.2.1 Mt Mk v2458.2.2.2.1 v2458.2.2.2.2.1 v2458.2.2.2.2.2 Mw Ml My Oa Od x5))
def fL_law_J2492 (N : Nat) (L : Nat) (xs : Nat → Int32) (k28 : Int32 → (Nat → Int32) → Int32 → (Nat → Int32) → (Nat → Int32) → Int32 → (Nat → Int32) → (Nat → Int32) → (Nat → Int32) → (Nat → Int32) → Int32 → Int32 → Int32 → Int32 → Int32 → Int32 → Int32 → (Nat → Int32) → (Nat → Int32) → (Nat → Int32) → (Nat → Int32) → (Nat → Int32) → (Nat → Int32) → (Nat → Int32) → (Nat → Int64) → (Nat → Int64) → (Nat → UInt64) → Int32 → Option Int32) (Tn : Int32) (Ta : (Nat → Int32)) (Fn : Int32) (Fa : (Nat → Int32)) (Ba : (Nat → Int32)) (Rn : Int32) (Ra : (Nat → Int32)) (Rb : (Nat → Int32)) (Rd : (Nat → Int32)) (Ua : (Nat → Int32)) (Wg : Int32) (Wz : Int32) (Ww : Int32) (Wr : Int32) (Mh : Int32) (Mn : Int32) (Mm : Int32) (Mt : (Nat → Int32)) (Mk : (Nat → Int32)) (Ms : (Nat → Int32)) (Me : (Nat → Int32)) (Mp : (Nat → Int32)) (Mw : (Nat → Int32)) (Ml : (Nat → Int32)) (My : (Nat → Int64)) (Oa : (Nat → Int64)) (Od : (Nat → UInt64)) (x5 : Int32) : Option Int32 :=
  bn (fX8_squares N Tn Ta Rn Ra Rb Rd) (fun v2493 =>
    bn (fX9_squares N Mh Mn Mm Mt) (fun v2497 =>
      if v2493.1 = v2497.1 then
        fL_law_J2831 N L xs k28 Tn Ta Fn Fa Ba v2493.2.1 v2493.2.2.1 v2493.2.2.2.1 v2493.2.2.2.2 Ua Wg Wz Ww Wr v2497.2 Mn Mm Mt Mk Ms Me Mp Mw Ml My Oa Od x5
      else
        fL_law_J2503 N L xs Tn Ta Fn Fa Ba v2493.2.1 v2493.2.2.1 v2493.2.2.2.1 v2493.2.2.2.2 Ua Wg Wz Ww Wr v2497.2 Mn Mm Mt Mk Ms Me Mp Mw Ml My Oa Od))
def fL_law_J2558 (N : Nat) (L : Nat) (xs : Nat → Int32) (k28 : Int32 → (Nat → Int32) → Int32 → (Nat → Int32) → (Nat → Int32) → Int32 → (Nat → Int32) → (Nat → Int32) → (Nat → Int32) → (Nat → Int32) → Int32 → Int32 → Int32 → Int32 → Int32 → Int32 → Int32 → (Nat → Int32) → (Nat → Int32) → (Nat → Int32) → (Nat → Int32) → (Nat → Int32) → (Nat → Int32) → (Nat → Int32) → (Nat → Int64) → (Nat → Int64) → (Nat → UInt64) → Int32 → Option Int32) (Tn : Int32) (Ta : (Nat → Int32)) (Fn : Int32) (Fa : (Nat → Int32)) (Ba : (Nat → Int32)) (Rn : Int32) (Ra : (Nat → Int32)) (Rb : (Nat → Int32)) (Rd : (Nat → Int32)) (Ua : (Nat → Int32)) (Wg : Int32) (Wz : Int32) (Ww : Int32) (Wr : Int32) (Mh : Int32) (Mn : Int32) (Mm : Int32) (Mt : (Nat → Int32)) (Mk : (Nat → Int32)) (Ms : (Nat → Int32)) (Me : (Nat → Int32)) (Mp : (Nat → Int32)) (Mw : (Nat → Int32)) (Ml : (Nat → Int32)) (My : (Nat → Int64)) (Oa : (Nat → Int64)) (Od : (Nat → UInt64)) (x5 : Int32) : Option Int32 :=
  fL_law_J2831 N L xs k28 Tn Ta Fn Fa Ba Rn Ra Rb Rd Ua Wg Wz Ww Wr Mh Mn Mm Mt Mk Ms Me Mp Mw Ml My Oa Od x5
def fL_law_J2505 (N : Nat) (L : Nat) (xs : Nat → Int32) (k28 : Int32 → (Nat → Int32) → Int32 → (Nat → Int32) → (Nat → Int32) → Int32 → (Nat → Int32) → (Nat → Int32) → (Nat → Int32) → (Nat → Int32) → Int32 → Int32 → Int32 → Int32 → Int32 → Int32 → Int32 → (Nat → Int32) → (Nat → Int32) → (Nat → Int32) → (Nat → Int32) → (Nat → Int32) → (Nat → Int32) → (Nat → Int32) → (Nat → Int64) → (Nat → Int64) → (Nat → UInt64) → Int32 → Option Int32) (Tn : Int32) (Ta : (Nat → Int32)) (Fn : Int32) (Fa : (Nat → Int32)) (Ba : (Nat → Int32)) (Rn : Int32) (Ra : (Nat → Int32)) (Rb : (Nat → Int32)) (Rd : (Nat → Int32)) (Ua : (Nat → Int32)) (Wg : Int32) (Wz : Int32) (Ww : Int32) (Wr : Int32) (Mh : Int32) (Mn : Int32) (Mm : Int32) (Mt : (Nat → Int32)) (Mk : (Nat → Int32)) (Ms : (Nat → Int32)) (Me : (Nat → Int32)) (Mp : (Nat → Int32)) (Mw : (Nat → Int32)) (Ml : (Nat → Int32)) (My : (Nat → Int64)) (Oa : (Nat → Int64)) (Od : (Nat → UInt64)) (x5 : Int32) : Option Int32 :=
  gd (inb (x5 + (1 : Int32)) L) (
    bn (fL_suffixAt N Tn Ta Ua Oa (xs ((x5 + (1 : Int32))).toNatClampNeg)) (fun v2513 =>
      gd (inb (x5 + (1 : Int32)) L) (
        bn (fX9_suffixAt N Mh Mn Mm Mt (xs ((x5 + (1 : Int32))).toNatClampNeg)) (fun v2525 =>
          bn (fX9_thrown N v2525.2 Mn Mm) (fun v2531 =>
            if v2531 = v2513.1 then
              if v2513.1 = 0 then
                gd (inb (0 : Int32) 1) (
                  if (lg_cmp (v2513.2.2 ((0 : Int32)).toNatClampNeg) ((v2525.1).toInt64)) = 0 then
                    fL_law_J2558 N L xs k28 Tn Ta Fn Fa Ba Rn Ra Rb Rd v2513.2.1 Wg Wz Ww Wr v2525.2 Mn Mm Mt Mk Ms Me Mp Mw Ml My v2513.2.2 Od x5
                  else
                    fL_law_J2556 N L xs Tn Ta Fn Fa Ba Rn Ra Rb Rd v2513.2.1 Wg Wz Ww Wr v2525.2 Mn Mm Mt Mk Ms Me Mp Mw Ml My v2513.2.2 Od)
              else
                fL_law_J2558 N L xs k28 Tn Ta Fn Fa Ba Rn Ra Rb Rd v2513.2.1 Wg Wz Ww Wr v2525.2 Mn Mm Mt Mk Ms Me Mp Mw Ml My v2513.2.2 Od x5
            else
              fL_law_J2539 N L xs Tn Ta Fn Fa Ba Rn Ra Rb Rd v2513.2.1 Wg Wz Ww Wr v2525.2 Mn Mm Mt Mk Ms Me Mp Mw Ml My v2513.2.2 Od)))))
def fL_law_J2614 (N : Nat) (L : Nat) (xs : Nat → Int32) (k28 : Int32 → (Nat → Int32) → Int32 → (Nat → Int32) → (Nat → Int32) → Int32 → (Nat → Int32) → (Nat → Int32) → (Nat → Int32) → (Nat → Int32) → Int32 → Int32 → Int32 → Int32 → Int32 → Int32 → Int32 → (Nat → Int32) → (Nat → Int32) → (Nat → Int32) → (Nat → Int32) → (Nat → Int32) → (Nat → Int32) → (Nat → Int32) → (Nat → Int64) → (Nat → Int64) → (Nat → UInt64) → Int32 → Option Int32) (Tn : Int32) (Ta : (Nat → Int32)) (Fn : Int32) (Fa : (Nat → Int32)) (Ba : (Nat → Int32)) (Rn : Int32) (Ra : (Nat → Int32)) (Rb : (Nat → Int32)) (Rd : (Nat → Int32)) (Ua : (Nat → Int32)) (Wg : Int32) (Wz : Int32) (Ww : Int32) (Wr : Int32) (Mh : Int32) (Mn : Int32) (Mm : Int32) (Mt : (Nat → Int32)) (Mk : (Nat → Int32)) (Ms : (Nat → Int32)) (Me : (Nat → Int32)) (Mp : (Nat → Int32)) (Mw : (Nat → Int32)) (Ml : (Nat → Int32)) (My : (Nat → Int64)) (Oa : (Nat → Int64)) (Od : (Nat → UInt64)) (x5 : Int32) : Option Int32 :=
  fL_law_J2831 N L xs k28 Tn Ta Fn Fa Ba Rn Ra Rb Rd Ua Wg Wz Ww Wr Mh Mn Mm Mt Mk Ms Me Mp Mw Ml My Oa Od x5
def fL_law_J2561 (N : Nat) (L : Nat) (xs : Nat → Int32) (k28 : Int32 → (Nat → Int32) → Int32 → (Nat → Int32) → (Nat → Int32) → Int32 → (Nat → Int32) → (Nat → Int32) → (Nat → Int32) → (Nat → Int32) → Int32 → Int32 → Int32 → Int32 → Int32 → Int32 → Int32 → (Nat → Int32) → (Nat → Int32) → (Nat → Int32) → (Nat → Int32) → (Nat → Int32) → (Nat → Int32) → (Nat → Int32) → (Nat → Int64) → (Nat → Int64) → (Nat → UInt64) → Int32 → Option Int32) (Tn : Int32) (Ta : (Nat → Int32)) (Fn : Int32) (Fa : (Nat → Int32)) (Ba : (Nat → Int32)) (Rn : Int32) (Ra : (Nat → Int32)) (Rb : (Nat → Int32)) (Rd : (Nat → Int32)) (Ua : (Nat → Int32)) (Wg : Int32) (Wz : Int32) (Ww : Int32) (Wr : Int32) (Mh : Int32) (Mn : Int32) (Mm : Int32) (Mt : (Nat → Int32)) (Mk : (Nat → Int32)) (Ms : (Nat → Int32)) (Me : (Nat → Int32)) (Mp : (Nat → Int32)) (Mw : (Nat → Int32)) (Ml : (Nat → Int32)) (My : (Nat → Int64)) (Oa : (Nat → Int64)) (Od : (Nat → UInt64)) (x5 : Int32) : Option Int32 :=
  gd (inb (x5 + (1 : Int32)) L) (
    bn (fL_rankOf N Tn Ta Ua Oa (xs ((x5 + (1 : Int32))).toNatClampNeg)) (fun v2569 =>
      gd (inb (x5 + (1 : Int32)) L) (
        bn (fX9_rankOf N Mh Mn Mm Mt (xs ((x5 + (1 : Int32))).toNatClampNeg)) (fun v2581 =>
          bn (fX9_thrown N v2581.2 Mn Mm) (fun v2587 =>
            if v2587 = v2569.1 then
              if v2569.1 = 0 then
                gd (inb (0 : Int32) 1) (
                  if (lg_cmp (v2569.2.2 ((0 : Int32)).toNatClampNeg) ((v2581.1).toInt64)) = 0 then
                    fL_law_J2614 N L xs k28 Tn Ta Fn Fa Ba Rn Ra Rb Rd v2569.2.1 Wg Wz Ww Wr v2581.2 Mn Mm Mt Mk Ms Me Mp Mw Ml My v2569.2.2 Od x5
                  else
                    fL_law_J2612 N L xs Tn Ta Fn Fa Ba Rn Ra Rb Rd v2569.2.1 Wg Wz Ww Wr v2581.2 Mn Mm Mt Mk Ms Me Mp Mw Ml My v2569.2.2 Od)
              else
                fL_law_J2614 N L xs k28 Tn Ta Fn Fa Ba Rn Ra Rb Rd v2569.2.1 Wg Wz Ww Wr v2581.2 Mn Mm Mt Mk Ms Me Mp Mw Ml My v2569.2.2 Od x5
            else
              fL_law_J2595 N L xs Tn Ta Fn Fa Ba Rn Ra Rb Rd v2569.2.1 Wg Wz Ww Wr v2581.2 Mn Mm Mt Mk Ms Me Mp Mw Ml My v2569.2.2 Od)))))
def fL_law_J2681 (N : Nat) (L : Nat) (xs : Nat → Int32) (k28 : Int32 → (Nat → Int32) → Int32 → (Nat → Int32) → (Nat → Int32) → Int32 → (Nat → Int32) → (Nat → Int32) → (Nat → Int32) → (Nat → Int32) → Int32 → Int32 → Int32 → Int32 → Int32 → Int32 → Int32 → (Nat → Int32) → (Nat → Int32) → (Nat → Int32) → (Nat → Int32) → (Nat → Int32) → (Nat → Int32) → (Nat → Int32) → (Nat → Int64) → (Nat → Int64) → (Nat → UInt64) → Int32 → Option Int32) (Tn : Int32) (Ta : (Nat → Int32)) (Fn : Int32) (Fa : (Nat → Int32)) (Ba : (Nat → Int32)) (Rn : Int32) (Ra : (Nat → Int32)) (Rb : (Nat → Int32)) (Rd : (Nat → Int32)) (Ua : (Nat → Int32)) (Wg : Int32) (Wz : Int32) (Ww : Int32) (Wr : Int32) (Mh : Int32) (Mn : Int32) (Mm : Int32) (Mt : (Nat → Int32)) (Mk : (Nat → Int32)) (Ms : (Nat → Int32)) (Me : (Nat → Int32)) (Mp : (Nat → Int32)) (Mw : (Nat → Int32)) (Ml : (Nat → Int32)) (My : (Nat → Int64)) (Oa : (Nat → Int64)) (Od : (Nat → UInt64)) (x5 : Int32) : Option Int32 :=
  fL_law_J2831 N L xs k28 Tn Ta Fn Fa Ba Rn Ra Rb Rd Ua Wg Wz Ww Wr Mh Mn Mm Mt Mk Ms Me Mp Mw Ml My Oa Od x5
def fL_law_J2617 (N : Nat) (L : Nat) (xs : Nat → Int32) (k28 : Int32 → (Nat → Int32) → Int32 → (Nat → Int32) → (Nat → Int32) → Int32 → (Nat → Int32) → (Nat → Int32) → (Nat → Int32) → (Nat → Int32) → Int32 → Int32 → Int32 → Int32 → Int32 → Int32 → Int32 → (Nat → Int32) → (Nat → Int32) → (Nat → Int32) → (Nat → Int32) → (Nat → Int32) → (Nat → Int32) → (Nat → Int32) → (Nat → Int64) → (Nat → Int64) → (Nat → UInt64) → Int32 → Option Int32) (Tn : Int32) (Ta : (Nat → Int32)) (Fn : Int32) (Fa : (Nat → Int32)) (Ba : (Nat → Int32)) (Rn : Int32) (Ra : (Nat → Int32)) (Rb : (Nat → Int32)) (Rd : (Nat → Int32)) (Ua : (Nat → Int32)) (Wg : Int32) (Wz : Int32) (Ww : Int32) (Wr : Int32) (Mh : Int32) (Mn : Int32) (Mm : Int32) (Mt : (Nat → Int32)) (Mk : (Nat → Int32)) (Ms : (Nat → Int32)) (Me : (Nat → Int32)) (Mp : (Nat → Int32)) (Mw : (Nat → Int32)) (Ml : (Nat → Int32)) (My : (Nat → Int64)) (Oa : (Nat → Int64)) (Od : (Nat → UInt64)) (x5 : Int32) : Option Int32 :=
  gd (inb (x5 + (1 : Int32)) L) (
    gd (inb (x5 + (2 : Int32)) L) (
      bn (fL_necklaces N Oa (xs ((x5 + (1 : Int32))).toNatClampNeg) (xs ((x5 + (2 : Int32))).toNatClampNeg)) (fun v2631 =>
        gd (inb (x5 + (1 : Int32)) L) (
          gd (inb (x5 + (2 : Int32)) L) (
            bn (fX9_necklaces N Mh Mn Mm My (xs ((x5 + (1 : Int32))).toNatClampNeg) (xs ((x5 + (2 : Int32))).toNatClampNeg)) (fun v2649 =>
              bn (fX9_thrown N v2649.2.1 Mn Mm) (fun v2655 =>
                if v2655 = v2631.1 then
                  if v2631.1 = 0 then
                    gd (inb (0 : Int32) 1) (
                      if (lg_cmp (v2631.2 ((0 : Int32)).toNatClampNeg) v2649.1) = 0 then
                        fL_law_J2681 N L xs k28 Tn Ta Fn Fa Ba Rn Ra Rb Rd Ua Wg Wz Ww Wr v2649.2.1 Mn Mm Mt Mk Ms Me Mp Mw Ml v2649.2.2 v2631.2 Od x5
                      else
                        fL_law_J2679 N L xs Tn Ta Fn Fa Ba Rn Ra Rb Rd Ua Wg Wz Ww Wr v2649.2.1 Mn Mm Mt Mk Ms Me Mp Mw Ml v2649.2.2 v2631.2 Od)
                  else
                    fL_law_J2681 N L xs k28 Tn Ta Fn Fa Ba Rn Ra Rb Rd Ua Wg Wz Ww Wr v2649.2.1 Mn Mm Mt Mk Ms Me Mp Mw Ml v2649.2.2 v2631.2 Od x5
                else
                  fL_law_J2663 N L xs Tn Ta Fn Fa Ba Rn Ra Rb Rd Ua Wg Wz Ww Wr v2649.2.1 Mn Mm Mt Mk Ms Me Mp Mw Ml v2649.2.2 v2631.2 Od)))))))
def fL_law_J2748 (N : Nat) (L : Nat) (xs : Nat → Int32) (k28 : Int32 → (Nat → Int32) → Int32 → (Nat → Int32) → (Nat → Int32) → Int32 → (Nat → Int32) → (Nat → Int32) → (Nat → Int32) → (Nat → Int32) → Int32 → Int32 → Int32 → Int32 → Int32 → Int32 → Int32 → (Nat → Int32) → (Nat → Int32) → (Nat → Int32) → (Nat → Int32) → (Nat → Int32) → (Nat → Int32) → (Nat → Int32) → (Nat → Int64) → (Nat → Int64) → (Nat → UInt64) → Int32 → Option Int32) (Tn : Int32) (Ta : (Nat → Int32)) (Fn : Int32) (Fa : (Nat → Int32)) (Ba : (Nat → Int32)) (Rn : Int32) (Ra : (Nat → Int32)) (Rb : (Nat → Int32)) (Rd : (Nat → Int32)) (Ua : (Nat → Int32)) (Wg : Int32) (Wz : Int32) (Ww : Int32) (Wr : Int32) (Mh : Int32) (Mn : Int32) (Mm : Int32) (Mt : (Nat → Int32)) (Mk : (Nat → Int32)) (Ms : (Nat → Int32)) (Me : (Nat → Int32)) (Mp : (Nat → Int32)) (Mw : (Nat → Int32)) (Ml : (Nat → Int32)) (My : (Nat → Int64)) (Oa : (Nat → Int64)) (Od : (Nat → UInt64)) (x5 : Int32) : Option Int32 :=
  fL_law_J2831 N L xs k28 Tn Ta Fn Fa Ba Rn Ra Rb Rd Ua Wg Wz Ww Wr Mh Mn Mm Mt Mk Ms Me Mp Mw Ml My Oa Od x5
def fL_law_J2684 (N : Nat) (L : Nat) (xs : Nat → Int32) (k28 : Int32 → (Nat → Int32) → Int32 → (Nat → Int32) → (Nat → Int32) → Int32 → (Nat → Int32) → (Nat → Int32) → (Nat → Int32) → (Nat → Int32) → Int32 → Int32 → Int32 → Int32 → Int32 → Int32 → Int32 → (Nat → Int32) → (Nat → Int32) → (Nat → Int32) → (Nat → Int32) → (Nat → Int32) → (Nat → Int32) → (Nat → Int32) → (Nat → Int64) → (Nat → Int64) → (Nat → UInt64) → Int32 → Option Int32) (Tn : Int32) (Ta : (Nat → Int32)) (Fn : Int32) (Fa : (Nat → Int32)) (Ba : (Nat → Int32)) (Rn : Int32) (Ra : (Nat → Int32)) (Rb : (Nat → Int32)) (Rd : (Nat → Int32)) (Ua : (Nat → Int32)) (Wg : Int32) (Wz : Int32) (Ww : Int32) (Wr : Int32) (Mh : Int32) (Mn : Int32) (Mm : Int32) (Mt : (Nat → Int32)) (Mk : (Nat → Int32)) (Ms : (Nat → Int32)) (Me : (Nat → Int32)) (Mp : (Nat → Int32)) (Mw : (Nat → Int32)) (Ml : (Nat → Int32)) (My : (Nat → Int64)) (Oa : (Nat → Int64)) (Od : (Nat → UInt64)) (x5 : Int32) : Option Int32 :=
  gd (inb (x5 + (1 : Int32)) L) (
    gd (inb (x5 + (2 : Int32)) L) (
      bn (fL_lyndonWords N Oa (xs ((x5 + (1 : Int32))).toNatClampNeg) (xs ((x5 + (2 : Int32))).toNatClampNeg)) (fun v2698 =>
        gd (inb (x5 + (1 : Int32)) L) (
          gd (inb (x5 + (2 : Int32)) L) (
            bn (fX9_lyndonWords N Mh Mn Mm My (xs ((x5 + (1 : Int32))).toNatClampNeg) (xs ((x5 + (2 : Int32))).toNatClampNeg)) (fun v2716 =>
              bn (fX9_thrown N v2716.2.1 Mn Mm) (fun v2722 =>
                if v2722 = v2698.1 then
                  if v2698.1 = 0 then
                    gd (inb (0 : Int32) 1) (
                      if (lg_cmp (v2698.2 ((0 : Int32)).toNatClampNeg) v2716.1) = 0 then
                        fL_law_J2748 N L xs k28 Tn Ta Fn Fa Ba Rn Ra Rb Rd Ua Wg Wz Ww Wr v2716.2.1 Mn Mm Mt Mk Ms Me Mp Mw Ml v2716.2.2 v2698.2 Od x5
                      else
                        fL_law_J2746 N L xs Tn Ta Fn Fa Ba Rn Ra Rb Rd Ua Wg Wz Ww Wr v2716.2.1 Mn Mm Mt Mk Ms Me Mp Mw Ml v2716.2.2 v2698.2 Od)
                  else
                    fL_law_J2748 N L xs k28 Tn Ta Fn Fa Ba Rn Ra Rb Rd Ua Wg Wz Ww Wr v2716.2.1 Mn Mm Mt Mk Ms Me Mp Mw Ml v2716.2.2 v2698.2 Od x5
                else
                  fL_law_J2730 N L xs Tn Ta Fn Fa Ba Rn Ra Rb Rd Ua Wg Wz Ww Wr v2716.2.1 Mn Mm Mt Mk Ms Me Mp Mw Ml v2716.2.2 v2698.2 Od)))))))
def fL_law_J2828 (N : Nat) (L : Nat) (xs : Nat → Int32) (k28 : Int32 → (Nat → Int32) → Int32 → (Nat → Int32) → (Nat → Int32) → Int32 → (Nat → Int32) → (Nat → Int32) → (Nat → Int32) → (Nat → Int32) → Int32 → Int32 → Int32 → Int32 → Int32 → Int32 → Int32 → (Nat → Int32) → (Nat → Int32) → (Nat → Int32) → (Nat → Int32) → (Nat → Int32) → (Nat → Int32) → (Nat → Int32) → (Nat → Int64) → (Nat → Int64) → (Nat → UInt64) → Int32 → Option Int32) (Tn : Int32) (Ta : (Nat → Int32)) (Fn : Int32) (Fa : (Nat → Int32)) (Ba : (Nat → Int32)) (Rn : Int32) (Ra : (Nat → Int32)) (Rb : (Nat → Int32)) (Rd : (Nat → Int32)) (Ua : (Nat → Int32)) (Wg : Int32) (Wz : Int32) (Ww : Int32) (Wr : Int32) (Mh : Int32) (Mn : Int32) (Mm : Int32) (Mt : (Nat → Int32)) (Mk : (Nat → Int32)) (Ms : (Nat → Int32)) (Me : (Nat → Int32)) (Mp : (Nat → Int32)) (Mw : (Nat → Int32)) (Ml : (Nat → Int32)) (My : (Nat → Int64)) (Oa : (Nat → Int64)) (Od : (Nat → UInt64)) (x5 : Int32) : Option Int32 :=
  fL_law_J2831 N L xs k28 Tn Ta Fn Fa Ba Rn Ra Rb Rd Ua Wg Wz Ww Wr Mh Mn Mm Mt Mk Ms Me Mp Mw Ml My Oa Od x5
def fL_law_J2751 (N : Nat) (L : Nat) (xs : Nat → Int32) (k28 : Int32 → (Nat → Int32) → Int32 → (Nat → Int32) → (Nat → Int32) → Int32 → (Nat → Int32) → (Nat → Int32) → (Nat → Int32) → (Nat → Int32) → Int32 → Int32 → Int32 → Int32 → Int32 → Int32 → Int32 → (Nat → Int32) → (Nat → Int32) → (Nat → Int32) → (Nat → Int32) → (Nat → Int32) → (Nat → Int32) → (Nat → Int32) → (Nat → Int64) → (Nat → Int64) → (Nat → UInt64) → Int32 → Option Int32) (Tn : Int32) (Ta : (Nat → Int32)) (Fn : Int32) (Fa : (Nat → Int32)) (Ba : (Nat → Int32)) (Rn : Int32) (Ra : (Nat → Int32)) (Rb : (Nat → Int32)) (Rd : (Nat → Int32)) (Ua : (Nat → Int32)) (Wg : Int32) (Wz : Int32) (Ww : Int32) (Wr : Int32) (Mh : Int32) (Mn : Int32) (Mm : Int32) (Mt : (Nat → Int32)) (Mk : (Nat → Int32)) (Ms : (Nat → Int32)) (Me : (Nat → Int32)) (Mp : (Nat → Int32)) (Mw : (Nat → Int32)) (Ml : (Nat → Int32)) (My : (Nat → Int64)) (Oa : (Nat → Int64)) (Od : (Nat → UInt64)) (x5 : Int32) : Option Int32 :=
  gd (inb (x5 + (1 : Int32)) L) (
    gd (inb (x5 + (2 : Int32)) L) (
      gd (inb (x5 + (3 : Int32)) L) (
        bn (fL_necklaceNumber N Tn Ta Wg Wz Ww Wr Oa (xs ((x5 + (1 : Int32))).toNatClampNeg) (xs ((x5 + (2 : Int32))).toNatClampNeg) (xs ((x5 + (3 : Int32))).toNatClampNeg)) (fun v2771 =>
          gd (inb (x5 + (1 : Int32)) L) (
            gd (inb (x5 + (2 : Int32)) L) (
              gd (inb (x5 + (3 : Int32)) L) (
                bn (fX9_necklaceNumber N Mh Mn Mm Mt Mw (xs ((x5 + (1 : Int32))).toNatClampNeg) (xs ((x5 + (2 : Int32))).toNatClampNeg) (xs ((x5 + (3 : Int32))).toNatClampNeg)) (fun v2795 =>
                  bn (fX9_thrown N v2795.2.1 Mn Mm) (fun v2801 =>
                    if v2801 = v2771.1 then
                      if v2771.1 = 0 then
                        gd (inb (0 : Int32) 1) (
                          if (lg_cmp (v2771.2.2.2.2.2 ((0 : Int32)).toNatClampNeg) ((v2795.1).toInt64)) = 0 then
                            fL_law_J2828 N L xs k28 Tn Ta Fn Fa Ba Rn Ra Rb Rd Ua v2771.2.1 v2771.2.2.1 v2771.2.2.2.1 v2771.2.2.2.2.1 v2795.2.1 Mn Mm Mt Mk Ms Me Mp v2795.2.2 Ml My v2771.2.2.2.2.2 Od x5
                          else
                            fL_law_J2826 N L xs Tn Ta Fn Fa Ba Rn Ra Rb Rd Ua v2771.2.1 v2771.2.2.1 v2771.2.2.2.1 v2771.2.2.2.2.1 v2795.2.1 Mn Mm Mt Mk Ms Me Mp v2795.2.2 Ml My v2771.2.2.2.2.2 Od)
                      else
                        fL_law_J2828 N L xs k28 Tn Ta Fn Fa Ba Rn Ra Rb Rd Ua v2771.2.1 v2771.2.2.1 v2771.2.2.2.1 v2771.2.2.2.2.1 v2795.2.1 Mn Mm Mt Mk Ms Me Mp v2795.2.2 Ml My v2771.2.2.2.2.2 Od x5
                    else
                      fL_law_J2809 N L xs Tn Ta Fn Fa Ba Rn Ra Rb Rd Ua v2771.2.1 v2771.2.2.1 v2771.2.2.2.1 v2771.2.2.2.2.1 v2795.2.1 Mn Mm Mt Mk Ms Me Mp v2795.2.2 Ml My v2771.2.2.2.2.2 Od)))))))))
def fL_law_B28 (N : Nat) (L : Nat) (xs : Nat → Int32) (k28 : Int32 → (Nat → Int32) → Int32 → (Nat → Int32) → (Nat → Int32) → Int32 → (Nat → Int32) → (Nat → Int32) → (Nat → Int32) → (Nat → Int32) → Int32 → Int32 → Int32 → Int32 → Int32 → Int32 → Int32 → (Nat → Int32) → (Nat → Int32) → (Nat → Int32) → (Nat → Int32) → (Nat → Int32) → (Nat → Int32) → (Nat → Int32) → (Nat → Int64) → (Nat → Int64) → (Nat → UInt64) → Int32 → Option Int32) (Tn : Int32) (Ta : (Nat → Int32)) (Fn : Int32) (Fa : (Nat → Int32)) (Ba : (Nat → Int32)) (Rn : Int32) (Ra : (Nat → Int32)) (Rb : (Nat → Int32)) (Rd : (Nat → Int32)) (Ua : (Nat → Int32)) (Wg : Int32) (Wz : Int32) (Ww : Int32) (Wr : Int32) (Mh : Int32) (Mn : Int32) (Mm : Int32) (Mt : (Nat → Int32)) (Mk : (Nat → Int32)) (Ms : (Nat → Int32)) (Me : (Nat → Int32)) (Mp : (Nat → Int32)) (Mw : (Nat → Int32)) (Ml : (Nat → Int32)) (My : (Nat → Int64)) (Oa : (Nat → Int64)) (Od : (Nat → UInt64)) (x5 : Int32) : Option Int32 :=
  if ((Int32.ofNat L) - (5 : Int32)) < x5 then
    fL_law_J2837 N L xs Tn Ta Fn Fa Ba Rn Ra Rb Rd Ua Wg Wz Ww Wr Mh Mn Mm Mt Mk Ms Me Mp Mw Ml My Oa Od
  else
    gd (inb x5 L) (
      if (((xs (x5).toNatClampNeg) &&& (63 : Int32))).toInt < 0 ∨ 43 < (((xs (x5).toNatClampNeg) &&& (63 : Int32))).toInt then fL_law_J2831 N L xs k28 Tn Ta Fn Fa Ba Rn Ra Rb Rd Ua Wg Wz Ww Wr Mh Mn Mm Mt Mk Ms Me Mp Mw Ml My Oa Od x5 else
      if (((xs (x5).toNatClampNeg) &&& (63 : Int32))).toInt = 0 then fL_law_J236 N L xs k28 Tn Ta Fn Fa Ba Rn Ra Rb Rd Ua Wg Wz Ww Wr Mh Mn Mm Mt Mk Ms Me Mp Mw Ml My Oa Od x5 else
      if (((xs (x5).toNatClampNeg) &&& (63 : Int32))).toInt = 1 then fL_law_J292 N L xs k28 Tn Ta Fn Fa Ba Rn Ra Rb Rd Ua Wg Wz Ww Wr Mh Mn Mm Mt Mk Ms Me Mp Mw Ml My Oa Od x5 else
      if (((xs (x5).toNatClampNeg) &&& (63 : Int32))).toInt = 2 then fL_law_J360 N L xs k28 Tn Ta Fn Fa Ba Rn Ra Rb Rd Ua Wg Wz Ww Wr Mh Mn Mm Mt Mk Ms Me Mp Mw Ml My Oa Od x5 else
      if (((xs (x5).toNatClampNeg) &&& (63 : Int32))).toInt = 3 then fL_law_J428 N L xs k28 Tn Ta Fn Fa Ba Rn Ra Rb Rd Ua Wg Wz Ww Wr Mh Mn Mm Mt Mk Ms Me Mp Mw Ml My Oa Od x5 else
      if (((xs (x5).toNatClampNeg) &&& (63 : Int32))).toInt = 4 then fL_law_J484 N L xs k28 Tn Ta Fn Fa Ba Rn Ra Rb Rd Ua Wg Wz Ww Wr Mh Mn Mm Mt Mk Ms Me Mp Mw Ml My Oa Od x5 else
      if (((xs (x5).toNatClampNeg) &&& (63 : Int32))).toInt = 5 then fL_law_J497 N L xs k28 Tn Ta Fn Fa Ba Rn Ra Rb Rd Ua Wg Wz Ww Wr Mh Mn Mm Mt Mk Ms Me Mp Mw Ml My Oa Od x5 else
      if (((xs (x5).toNatClampNeg) &&& (63 : Int32))).toInt = 6 then fL_law_J510 N L xs k28 Tn Ta Fn Fa Ba Rn Ra Rb Rd Ua Wg Wz Ww Wr Mh Mn Mm Mt Mk Ms Me Mp Mw Ml My Oa Od x5 else
      if (((xs (x5).toNatClampNeg) &&& (63 : Int32))).toInt = 7 then fL_law_J566 N L xs k28 Tn Ta Fn Fa Ba Rn Ra Rb Rd Ua Wg Wz Ww Wr Mh Mn Mm Mt Mk Ms Me Mp Mw Ml My Oa Od x5 else
      if (((xs (x5).toNatClampNeg) &&& (63 : Int32))).toInt = 8 then fL_law_J634 N L xs k28 Tn Ta Fn Fa Ba Rn Ra Rb Rd Ua Wg Wz Ww Wr Mh Mn Mm Mt Mk Ms Me Mp Mw Ml My Oa Od x5 else
      if (((xs (x5).toNatClampNeg) &&& (63 : Int32))).toInt = 9 then fL_law_J702 N L xs k28 Tn Ta Fn Fa Ba Rn Ra Rb Rd Ua Wg Wz Ww Wr Mh Mn Mm Mt Mk Ms Me Mp Mw Ml My Oa Od x5 else
      if (((xs (x5).toNatClampNeg) &&& (63 : Int32))).toInt = 10 then fL_law_J782 N L xs k28 Tn Ta Fn Fa Ba Rn Ra Rb Rd Ua Wg Wz Ww Wr Mh Mn Mm Mt Mk Ms Me Mp Mw Ml My Oa Od x5 else
      if (((xs (x5).toNatClampNeg) &&& (63 : Int32))).toInt = 11 then fL_law_J795 N L xs k28 Tn Ta Fn Fa Ba Rn Ra Rb Rd Ua Wg Wz Ww Wr Mh Mn Mm Mt Mk Ms Me Mp Mw Ml My Oa Od x5 else
      if (((xs (x5).toNatClampNeg) &&& (63 : Int32))).toInt = 12 then fL_law_J851 N L xs k28 Tn Ta Fn Fa Ba Rn Ra Rb Rd Ua Wg Wz Ww Wr Mh Mn Mm Mt Mk Ms Me Mp Mw Ml My Oa Od x5 else
      if (((xs (x5).toNatClampNeg) &&& (63 : Int32))).toInt = 13 then fL_law_J943 N L xs k28 Tn Ta Fn Fa Ba Rn Ra Rb Rd Ua Wg Wz Ww Wr Mh Mn Mm Mt Mk Ms Me Mp Mw Ml My Oa Od x5 else
      if (((xs (x5).toNatClampNeg) &&& (63 : Int32))).toInt = 14 then fL_law_J1011 N L xs k28 Tn Ta Fn Fa Ba Rn Ra Rb Rd Ua Wg Wz Ww Wr Mh Mn Mm Mt Mk Ms Me Mp Mw Ml My Oa Od x5 else
      if (((xs (x5).toNatClampNeg) &&& (63 : Int32))).toInt = 15 then fL_law_J1086 N L xs k28 Tn Ta Fn Fa Ba Rn Ra Rb Rd Ua Wg Wz Ww Wr Mh Mn Mm Mt Mk Ms Me Mp Mw Ml My Oa Od x5 else
      if (((xs (x5).toNatClampNeg) &&& (63 : Int32))).toInt = 16 then fL_law_J1099 N L xs k28 Tn Ta Fn Fa Ba Rn Ra Rb Rd Ua Wg Wz Ww Wr Mh Mn Mm Mt Mk Ms Me Mp Mw Ml My Oa Od x5 else
      if (((xs (x5).toNatClampNeg) &&& (63 : Int32))).toInt = 17 then fL_law_J1155 N L xs k28 Tn Ta Fn Fa Ba Rn Ra Rb Rd Ua Wg Wz Ww Wr Mh Mn Mm Mt Mk Ms Me Mp Mw Ml My Oa Od x5 else
      if (((xs (x5).toNatClampNeg) &&& (63 : Int32))).toInt = 18 then fL_law_J1211 N L xs k28 Tn Ta Fn Fa Ba Rn Ra Rb Rd Ua Wg Wz Ww Wr Mh Mn Mm Mt Mk Ms Me Mp Mw Ml My Oa Od x5 else
      if (((xs (x5).toNatClampNeg) &&& (63 : Int32))).toInt = 19 then fL_law_J1267 N L xs k28 Tn Ta Fn Fa Ba Rn Ra Rb Rd Ua Wg Wz Ww Wr Mh Mn Mm Mt Mk Ms Me Mp Mw Ml My Oa Od x5 else
      if (((xs (x5).toNatClampNeg) &&& (63 : Int32))).toInt = 20 then fL_law_J1351 N L xs k28 Tn Ta Fn Fa Ba Rn Ra Rb Rd Ua Wg Wz Ww Wr Mh Mn Mm Mt Mk Ms Me Mp Mw Ml My Oa Od x5 else
      if (((xs (x5).toNatClampNeg) &&& (63 : Int32))).toInt = 21 then fL_law_J1419 N L xs k28 Tn Ta Fn Fa Ba Rn Ra Rb Rd Ua Wg Wz Ww Wr Mh Mn Mm Mt Mk Ms Me Mp Mw Ml My Oa Od x5 else
      if (((xs (x5).toNatClampNeg) &&& (63 : Int32))).toInt = 22 then fL_law_J1487 N L xs k28 Tn Ta Fn Fa Ba Rn Ra Rb Rd Ua Wg Wz Ww Wr Mh Mn Mm Mt Mk Ms Me Mp Mw Ml My Oa Od x5 else
      if (((xs (x5).toNatClampNeg) &&& (63 : Int32))).toInt = 23 then fL_law_J1555 N L xs k28 Tn Ta Fn Fa Ba Rn Ra Rb Rd Ua Wg Wz Ww Wr Mh Mn Mm Mt Mk Ms Me Mp Mw Ml My Oa Od x5 else
      if (((xs (x5).toNatClampNeg) &&& (63 : Int32))).toInt = 24 then fL_law_J1623 N L xs k28 Tn Ta Fn Fa Ba Rn Ra Rb Rd Ua Wg Wz Ww Wr Mh Mn Mm Mt Mk Ms Me Mp Mw Ml My Oa Od x5 else
      if (((xs (x5).toNatClampNeg) &&& (63 : Int32))).toInt = 25 then fL_law_J1698 N L xs k28 Tn Ta Fn Fa Ba Rn Ra Rb Rd Ua Wg Wz Ww Wr Mh Mn Mm Mt Mk Ms Me Mp Mw Ml My Oa Od x5 else
      if (((xs (x5).toNatClampNeg) &&& (63 : Int32))).toInt = 26 then fL_law_J1766 N L xs k28 Tn Ta Fn Fa Ba Rn Ra Rb Rd Ua Wg Wz Ww Wr Mh Mn Mm Mt Mk Ms Me Mp Mw Ml My Oa Od x5 else
      if (((xs (x5).toNatClampNeg) &&& (63 : Int32))).toInt = 27 then fL_law_J1834 N L xs k28 Tn Ta Fn Fa Ba Rn Ra Rb Rd Ua Wg Wz Ww Wr Mh Mn Mm Mt Mk Ms Me Mp Mw Ml My Oa Od x5 else
      if (((xs (x5).toNatClampNeg) &&& (63 : Int32))).toInt = 28 then fL_law_J1921 N L xs k28 Tn Ta Fn Fa Ba Rn Ra Rb Rd Ua Wg Wz Ww Wr Mh Mn Mm Mt Mk Ms Me Mp Mw Ml My Oa Od x5 else
      if (((xs (x5).toNatClampNeg) &&& (63 : Int32))).toInt = 29 then fL_law_J1989 N L xs k28 Tn Ta Fn Fa Ba Rn Ra Rb Rd Ua Wg Wz Ww Wr Mh Mn Mm Mt Mk Ms Me Mp Mw Ml My Oa Od x5 else
      if (((xs (x5).toNatClampNeg) &&& (63 : Int32))).toInt = 30 then fL_law_J2057 N L xs k28 Tn Ta Fn Fa Ba Rn Ra Rb Rd Ua Wg Wz Ww Wr Mh Mn Mm Mt Mk Ms Me Mp Mw Ml My Oa Od x5 else
      if (((xs (x5).toNatClampNeg) &&& (63 : Int32))).toInt = 31 then fL_law_J2125 N L xs k28 Tn Ta Fn Fa Ba Rn Ra Rb Rd Ua Wg Wz Ww Wr Mh Mn Mm Mt Mk Ms Me Mp Mw Ml My Oa Od x5 else
      if (((xs (x5).toNatClampNeg) &&& (63 : Int32))).toInt = 32 then fL_law_J2214 N L xs k28 Tn Ta Fn Fa Ba Rn Ra Rb Rd Ua Wg Wz Ww Wr Mh Mn Mm Mt Mk Ms Me Mp Mw Ml My Oa Od x5 else
      if (((xs (x5).toNatClampNeg) &&& (63 : Int32))).toInt = 33 then fL_law_J2227 N L xs k28 Tn Ta Fn Fa Ba Rn Ra Rb Rd Ua Wg Wz Ww Wr Mh Mn Mm Mt Mk Ms Me Mp Mw Ml My Oa Od x5 else
      if (((xs (x5).toNatClampNeg) &&& (63 : Int32))).toInt = 34 then fL_law_J2283 N L xs k28 Tn Ta Fn Fa Ba Rn Ra Rb Rd Ua Wg Wz Ww Wr Mh Mn Mm Mt Mk Ms Me Mp Mw Ml My Oa Od x5 else
      if (((xs (x5).toNatClampNeg) &&& (63 : Int32))).toInt = 35 then fL_law_J2339 N L xs k28 Tn Ta Fn Fa Ba Rn Ra Rb Rd Ua Wg Wz Ww Wr Mh Mn Mm Mt Mk Ms Me Mp Mw Ml My Oa Od x5 else
      if (((xs (x5).toNatClampNeg) &&& (63 : Int32))).toInt = 36 then fL_law_J2395 N L xs k28 Tn Ta Fn Fa Ba Rn Ra Rb Rd Ua Wg Wz Ww Wr Mh Mn Mm Mt Mk Ms Me Mp Mw Ml My Oa Od x5 else
      if (((xs (x5).toNatClampNeg) &&& (63 : Int32))).toInt = 37 then fL_law_J2451 N L xs k28 Tn Ta Fn Fa Ba Rn Ra Rb Rd Ua Wg Wz Ww Wr Mh Mn Mm Mt Mk Ms Me Mp Mw Ml My Oa Od x5 else
      if (((xs (x5).toNatClampNeg) &&& (63 : Int32))).toInt = 38 then fL_law_J2492 N L xs k28 Tn Ta Fn Fa Ba Rn Ra Rb Rd Ua Wg Wz Ww Wr Mh Mn Mm Mt Mk Ms Me Mp Mw Ml My Oa Od x5 else
      if (((xs (x5).toNatClampNeg) &&& (63 : Int32))).toInt = 39 then fL_law_J2505 N L xs k28 Tn Ta Fn Fa Ba Rn Ra Rb Rd Ua Wg Wz Ww Wr Mh Mn Mm Mt Mk Ms Me Mp Mw Ml My Oa Od x5 else
      if (((xs (x5).toNatClampNeg) &&& (63 : Int32))).toInt = 40 then fL_law_J2561 N L xs k28 Tn Ta Fn Fa Ba Rn Ra Rb Rd Ua Wg Wz Ww Wr Mh Mn Mm Mt Mk Ms Me Mp Mw Ml My Oa Od x5 else
      if (((xs (x5).toNatClampNeg) &&& (63 : Int32))).toInt = 41 then fL_law_J2617 N L xs k28 Tn Ta Fn Fa Ba Rn Ra Rb Rd Ua Wg Wz Ww Wr Mh Mn Mm Mt Mk Ms Me Mp Mw Ml My Oa Od x5 else
      if (((xs (x5).toNatClampNeg) &&& (63 : Int32))).toInt = 42 then fL_law_J2684 N L xs k28 Tn Ta Fn Fa Ba Rn Ra Rb Rd Ua Wg Wz Ww Wr Mh Mn Mm Mt Mk Ms Me Mp Mw Ml My Oa Od x5 else
      fL_law_J2751 N L xs k28 Tn Ta Fn Fa Ba Rn Ra Rb Rd Ua Wg Wz Ww Wr Mh Mn Mm Mt Mk Ms Me Mp Mw Ml My Oa Od x5)
def fL_law_H28 (N : Nat) (L : Nat) (xs : Nat → Int32) : Nat → Int32 → (Nat → Int32) → Int32 → (Nat → Int32) → (Nat → Int32) → Int32 → (Nat → Int32) → (Nat → Int32) → (Nat → Int32) → (Nat → Int32) → Int32 → Int32 → Int32 → Int32 → Int32 → Int32 → Int32 → (Nat → Int32) → (Nat → Int32) → (Nat → Int32) → (Nat → Int32) → (Nat → Int32) → (Nat → Int32) → (Nat → Int32) → (Nat → Int64) → (Nat → Int64) → (Nat → UInt64) → Int32 → Option Int32
  | 0, _, _, _, _, _, _, _, _, _, _, _, _, _, _, _, _, _, _, _, _, _, _, _, _, _, _, _, _ => none
  | n + 1, Tn, Ta, Fn, Fa, Ba, Rn, Ra, Rb, Rd, Ua, Wg, Wz, Ww, Wr, Mh, Mn, Mm, Mt, Mk, Ms, Me, Mp, Mw, Ml, My, Oa, Od, x5 => fL_law_B28 N L xs (fL_law_H28 N L xs n) Tn Ta Fn Fa Ba Rn Ra Rb Rd Ua Wg Wz Ww Wr Mh Mn Mm Mt Mk Ms Me Mp Mw Ml My Oa Od x5
def w_0_1_2_3_4_5_6_7_8_9_10_11_12_13_14_15_16_17_18_19_20_21_22_23_24 (q : Nat → Nat) (cI cJ cD : ClassId) (Tn : Int32) (Ta : (Nat → Int32)) (Fn : Int32) (Fa : (Nat → Int32)) (Ba : (Nat → Int32)) (Rn : Int32) (Ra : (Nat → Int32)) (Rb : (Nat → Int32)) (Rd : (Nat → Int32)) (Ua : (Nat → Int32)) (Wg : Int32) (Wz : Int32) (Ww : Int32) (Wr : Int32) (Mh : Int32) (Mn : Int32) (Mm : Int32) (Mt : (Nat → Int32)) (Mk : (Nat → Int32)) (Ms : (Nat → Int32)) (Me : (Nat → Int32)) (Mp : (Nat → Int32)) (Mw : (Nat → Int32)) (Ml : (Nat → Int32)) (My : (Nat → Int64)) (Oa : (Nat → Int64)) (Od : (Nat → UInt64)) : va_W := [(q 0, .inr (6, [.ref (q 1), .ref (q 3), .ref (q 5), .ref (q 7), .ref (q 11), .ref (q 13)])), (q 1, .inr (2, [.ref (q 2), .int Tn])), (q 2, .inl (cI, 64, .inl Ta)), (q 3, .inr (1, [.ref (q 4), .int Fn])), (q 4, .inl (cI, 65, .inl Fa)), (q 5, .inr (0, [.ref (q 6)])), (q 6, .inl (cI, 65, .inl Ba)), (q 7, .inr (4, [.ref (q 8), .ref (q 9), .ref (q 10), .int Rn])), (q 8, .inl (cI, 64, .inl Ra)), (q 9, .inl (cI, 64, .inl Rb)), (q 10, .inl (cI, 64, .inl Rd)), (q 11, .inr (5, [.ref (q 12)])), (q 12, .inl (cI, 65, .inl Ua)), (q 13, .inr (3, [.int Wg, .int Wz, .int Ww, .int Wr])), (q 14, .inr (7, [.int Mh, .int Mn, .ref (q 15), .ref (q 16), .ref (q 17), .ref (q 18), .ref (q 19), .int Mm, .ref (q 20), .ref (q 21), .ref (q 22)])), (q 15, .inl (cI, 64, .inl Mt)), (q 16, .inl (cI, 64, .inl Mk)), (q 17, .inl (cI, 128, .inl Ms)), (q 18, .inl (cI, 128, .inl Me)), (q 19, .inl (cI, 128, .inl Mp)), (q 20, .inl (cI, 8, .inl Mw)), (q 21, .inl (cI, 8, .inl Ml)), (q 22, .inl (cJ, 13, .inr (.inl My))), (q 23, .inl (cJ, 1, .inr (.inl Oa))), (q 24, .inl (cD, 1, .inr (.inr (.inr (.inl Od)))))]
