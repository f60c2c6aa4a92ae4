theorem law_H {L : Nat} (hL : L ≤ 2560) (xs : Nat → Int32) : ∀ (z x : Nat) (Tn : Int32) (Ta : (Nat → Int32)) (Fn : Int32) (Fa : (Nat → Int32)) (Ba : (Nat → Int32)) (Rn : Int32) (Ra : (Nat → Int32)) (Rb : (Nat → Int32)) (Rd : (Nat → Int32)) (Ua : (Nat → Int32)) (Wg : Int32) (Wz : Int32) (Ww : Int32) (Wr : Int32) (Mh : Int32) (Mn : Int32) (Mm : Int32) (Mt : (Nat → Int32)) (Mk : (Nat → Int32)) (Ms : (Nat → Int32)) (Me : (Nat → Int32)) (Mp : (Nat → Int32)) (Mw : (Nat → Int32)) (Ml : (Nat → Int32)) (My : (Nat → Int64)) (Oa : (Nat → Int64)) (Od : (Nat → UInt64)), TwoR Tn Ta Mn Mt → L + 5 < x + 5 * z → x ≤ L + 5 → fL_law_H28 100000 L xs z Tn Ta Fn Fa Ba Rn Ra Rb Rd Ua Wg Wz Ww Wr Mh Mn Mm Mt Mk Ms Me Mp Mw Ml My Oa Od (nI x) = some 1 := by
  intro z
  induction z with
  | zero => intro x Tn Ta Fn Fa Ba Rn Ra Rb Rd Ua Wg Wz Ww Wr Mh Mn Mm Mt Mk Ms Me Mp Mw Ml My Oa Od hT hz hx; omega
  | succ z ih =>
    intro x Tn Ta Fn Fa Ba Rn Ra Rb Rd Ua Wg Wz Ww Wr Mh Mn Mm Mt Mk Ms Me Mp Mw Ml My Oa Od hT hz hx
    show fL_law_B28 100000 L xs (fL_law_H28 100000 L xs z) Tn Ta Fn Fa Ba Rn Ra Rb Rd Ua Wg Wz Ww Wr Mh Mn Mm Mt Mk Ms Me Mp Mw Ml My Oa Od (nI x) = some 1
    unfold fL_law_B28
    have h5 : Int32.ofNat L - (5 : Int32) < nI x ↔ L < x + 5 := by
      rw [show Int32.ofNat L - (5 : Int32) = nI L - nI 5 from rfl, Int32.lt_iff_toInt_lt, d_toInt (by omega) (by omega), nI_toInt (by omega)]
      omega
    by_cases e : L < x + 5
    · rw [if_pos (h5.mpr e)]; rfl
    · rw [if_neg (fun hh => e (h5.mp hh)), q_inb (show x < L by omega) (by omega), gd_t]
      have i1 : inb (nI x + (1 : Int32)) L = true := by rw [nI_1]; exact q_inb (by omega) (by omega)
      have i2 : inb (nI x + (2 : Int32)) L = true := by rw [q_2, nI_add]; exact q_inb (by omega) (by omega)
      have i3 : inb (nI x + (3 : Int32)) L = true := by rw [q_3, nI_add]; exact q_inb (by omega) (by omega)
      have i4 : inb (nI x + (4 : Int32)) L = true := by rw [q_4, nI_add]; exact q_inb (by omega) (by omega)
      have go : ∀ X : (Int32 → (Nat → Int32) → Int32 → (Nat → Int32) → (Nat → Int32) → Int32 → (Nat → Int32) → (Nat → Int32) → (Nat → Int32) → (Nat → Int32) → Int32 → Int32 → Int32 → Int32 → Int32 → Int32 → Int32 → (Nat → Int32) → (Nat → Int32) → (Nat → Int32) → (Nat → Int32) → (Nat → Int32) → (Nat → Int32) → (Nat → Int32) → (Nat → Int64) → (Nat → Int64) → (Nat → UInt64) → Int32 → Option Int32) → Option Int32, GoesOn X (nI x) → X (fL_law_H28 100000 L xs z) = some 1 := by
        intro X hX
        obtain ⟨u0, u1, u2, u3, u4, u5, u6, u7, u8, u9, u10, u11, u12, u13, u14, u15, u16, u17, u18, u19, u20, u21, u22, u23, u24, u25, u26, g1, g2⟩ := hX
        rw [g2, show nI x + (5 : Int32) = nI (x + 5) from nI_add x 5]
        exact ih (x + 5) u0 u1 u2 u3 u4 u5 u6 u7 u8 u9 u10 u11 u12 u13 u14 u15 u16 u17 u18 u19 u20 u21 u22 u23 u24 u25 u26 g1 (by omega) (by omega)
      generalize ((xs (nI x).toNatClampNeg) &&& (63 : Int32)).toInt = o
      by_cases e0 : o < 0 ∨ 43 < o
      · rw [if_pos e0]
        exact go (fun k28 => fL_law_J2831 100000 L xs k28 Tn Ta Fn Fa Ba Rn Ra Rb Rd Ua Wg Wz Ww Wr Mh Mn Mm Mt Mk Ms Me Mp Mw Ml My Oa Od (nI x)) ⟨Tn, Ta, Fn, Fa, Ba, Rn, Ra, Rb, Rd, Ua, Wg, Wz, Ww, Wr, Mh, Mn, Mm, Mt, Mk, Ms, Me, Mp, Mw, Ml, My, Oa, Od, hT, fun k => rfl⟩
      rw [if_neg e0]
      by_cases o0 : o = 0
      · rw [if_pos o0]
        exact go (fun k28 => fL_law_J236 100000 L xs k28 Tn Ta Fn Fa Ba Rn Ra Rb Rd Ua Wg Wz Ww Wr Mh Mn Mm Mt Mk Ms Me Mp Mw Ml My Oa Od (nI x)) (lc_0 i1 i2 i3 i4 Tn Ta Fn Fa Ba Rn Ra Rb Rd Ua Wg Wz Ww Wr Mh Mn Mm Mt Mk Ms Me Mp Mw Ml My Oa Od hT)
      rw [if_neg o0]
      by_cases o1 : o = 1
      · rw [if_pos o1]
        exact go (fun k28 => fL_law_J292 100000 L xs k28 Tn Ta Fn Fa Ba Rn Ra Rb Rd Ua Wg Wz Ww Wr Mh Mn Mm Mt Mk Ms Me Mp Mw Ml My Oa Od (nI x)) (lc_1 i1 i2 i3 i4 Tn Ta Fn Fa Ba Rn Ra Rb Rd Ua Wg Wz Ww Wr Mh Mn Mm Mt Mk Ms Me Mp Mw Ml My Oa Od hT)
      rw [if_neg o1]
      by_cases o2 : o = 2
      · rw [if_pos o2]
        exact go (fun k28 => fL_law_J360 100000 L xs k28 Tn Ta Fn Fa Ba Rn Ra Rb Rd Ua Wg Wz Ww Wr Mh Mn Mm Mt Mk Ms Me Mp Mw Ml My Oa Od (nI x)) (lc_2 i1 i2 i3 i4 Tn Ta Fn Fa Ba Rn Ra Rb Rd Ua Wg Wz Ww Wr Mh Mn Mm Mt Mk Ms Me Mp Mw Ml My Oa Od hT)
      rw [if_neg o2]
      by_cases o3 : o = 3
      · rw [if_pos o3]
        exact go (fun k28 => fL_law_J428 100000 L xs k28 Tn Ta Fn Fa Ba Rn Ra Rb Rd Ua Wg Wz Ww Wr Mh Mn Mm Mt Mk Ms Me Mp Mw Ml My Oa Od (nI x)) (lc_3 i1 i2 i3 i4 Tn Ta Fn Fa Ba Rn Ra Rb Rd Ua Wg Wz Ww Wr Mh Mn Mm Mt Mk Ms Me Mp Mw Ml My Oa Od hT)
      rw [if_neg o3]
      by_cases o4 : o = 4
      · rw [if_pos o4]
        exact go (fun k28 => fL_law_J484 100000 L xs k28 Tn Ta Fn Fa Ba Rn Ra Rb Rd Ua Wg Wz Ww Wr Mh Mn Mm Mt Mk Ms Me Mp Mw Ml My Oa Od (nI x)) (lc_4 i1 i2 i3 i4 Tn Ta Fn Fa Ba Rn Ra Rb Rd Ua Wg Wz Ww Wr Mh Mn Mm Mt Mk Ms Me Mp Mw Ml My Oa Od hT)
      rw [if_neg o4]
      by_cases o5 : o = 5
      · rw [if_pos o5]
        exact go (fun k28 => fL_law_J497 100000 L xs k28 Tn Ta Fn Fa Ba Rn Ra Rb Rd Ua Wg Wz Ww Wr Mh Mn Mm Mt Mk Ms Me Mp Mw Ml My Oa Od (nI x)) (lc_5 i1 i2 i3 i4 Tn Ta Fn Fa Ba Rn Ra Rb Rd Ua Wg Wz Ww Wr Mh Mn Mm Mt Mk Ms Me Mp Mw Ml My Oa Od hT)
      rw [if_neg o5]
      by_cases o6 : o = 6
      · rw [if_pos o6]
        exact go (fun k28 => fL_law_J510 100000 L xs k28 Tn Ta Fn Fa Ba Rn Ra Rb Rd Ua Wg Wz Ww Wr Mh Mn Mm Mt Mk Ms Me Mp Mw Ml My Oa Od (nI x)) (lc_6 i1 i2 i3 i4 Tn Ta Fn Fa Ba Rn Ra Rb Rd Ua Wg Wz Ww Wr Mh Mn Mm Mt Mk Ms Me Mp Mw Ml My Oa Od hT)
      rw [if_neg o6]
      by_cases o7 : o = 7
      · rw [if_pos o7]
        exact go (fun k28 => fL_law_J566 100000 L xs k28 Tn Ta Fn Fa Ba Rn Ra Rb Rd Ua Wg Wz Ww Wr Mh Mn Mm Mt Mk Ms Me Mp Mw Ml My Oa Od (nI x)) (lc_7 i1 i2 i3 i4 Tn Ta Fn Fa Ba Rn Ra Rb Rd Ua Wg Wz Ww Wr Mh Mn Mm Mt Mk Ms Me Mp Mw Ml My Oa Od hT)
      rw [if_neg o7]
      by_cases o8 : o = 8
      · rw [if_pos o8]
        exact go (fun k28 => fL_law_J634 100000 L xs k28 Tn Ta Fn Fa Ba Rn Ra Rb Rd Ua Wg Wz Ww Wr Mh Mn Mm Mt Mk Ms Me Mp Mw Ml My Oa Od (nI x)) (lc_8 i1 i2 i3 i4 Tn Ta Fn Fa Ba Rn Ra Rb Rd Ua Wg Wz Ww Wr Mh Mn Mm Mt Mk Ms Me Mp Mw Ml My Oa Od hT)
      rw [if_neg o8]
      by_cases o9 : o = 9
      · rw [if_pos o9]
        exact go (fun k28 => fL_law_J702 100000 L xs k28 Tn Ta Fn Fa Ba Rn Ra Rb Rd Ua Wg Wz Ww Wr Mh Mn Mm Mt Mk Ms Me Mp Mw Ml My Oa Od (nI x)) (lc_9 i1 i2 i3 i4 Tn Ta Fn Fa Ba Rn Ra Rb Rd Ua Wg Wz Ww Wr Mh Mn Mm Mt Mk Ms Me Mp Mw Ml My Oa Od hT)
      rw [if_neg o9]
      by_cases o10 : o = 10
      · rw [if_pos o10]
        exact go (fun k28 => fL_law_J782 100000 L xs k28 Tn Ta Fn Fa Ba Rn Ra Rb Rd Ua Wg Wz Ww Wr Mh Mn Mm Mt Mk Ms Me Mp Mw Ml My Oa Od (nI x)) (lc_10 i1 i2 i3 i4 Tn Ta Fn Fa Ba Rn Ra Rb Rd Ua Wg Wz Ww Wr Mh Mn Mm Mt Mk Ms Me Mp Mw Ml My Oa Od hT)
      rw [if_neg o10]
      by_cases o11 : o = 11
      · rw [if_pos o11]
        exact go (fun k28 => fL_law_J795 100000 L xs k28 Tn Ta Fn Fa Ba Rn Ra Rb Rd Ua Wg Wz Ww Wr Mh Mn Mm Mt Mk Ms Me Mp Mw Ml My Oa Od (nI x)) (lc_11 i1 i2 i3 i4 Tn Ta Fn Fa Ba Rn Ra Rb Rd Ua Wg Wz Ww Wr Mh Mn Mm Mt Mk Ms Me Mp Mw Ml My Oa Od hT)
      rw [if_neg o11]
      by_cases o12 : o = 12
      · rw [if_pos o12]
        exact go (fun k28 => fL_law_J851 100000 L xs k28 Tn Ta Fn Fa Ba Rn Ra Rb Rd Ua Wg Wz Ww Wr Mh Mn Mm Mt Mk Ms Me Mp Mw Ml My Oa Od (nI x)) (lc_12 i1 i2 i3 i4 Tn Ta Fn Fa Ba Rn Ra Rb Rd Ua Wg Wz Ww Wr Mh Mn Mm Mt Mk Ms Me Mp Mw Ml My Oa Od hT)
      rw [if_neg o12]
      by_cases o13 : o = 13
      · rw [if_pos o13]
        exact go (fun k28 => fL_law_J943 100000 L xs k28 Tn Ta Fn Fa Ba Rn Ra Rb Rd Ua Wg Wz Ww Wr Mh Mn Mm Mt Mk Ms Me Mp Mw Ml My Oa Od (nI x)) (lc_13 i1 i2 i3 i4 Tn Ta Fn Fa Ba Rn Ra Rb Rd Ua Wg Wz Ww Wr Mh Mn Mm Mt Mk Ms Me Mp Mw Ml My Oa Od hT)
      rw [if_neg o13]
      by_cases o14 : o = 14
      · rw [if_pos o14]
        exact go (fun k28 => fL_law_J1011 100000 L xs k28 Tn Ta Fn Fa Ba Rn Ra Rb Rd Ua Wg Wz Ww Wr Mh Mn Mm Mt Mk Ms Me Mp Mw Ml My Oa Od (nI x)) (lc_14 i1 i2 i3 i4 Tn Ta Fn Fa Ba Rn Ra Rb Rd Ua Wg Wz Ww Wr Mh Mn Mm Mt Mk Ms Me Mp Mw Ml My Oa Od hT)
      rw [if_neg o14]
      by_cases o15 : o = 15
      · rw [if_pos o15]
        exact go (fun k28 => fL_law_J1086 100000 L xs k28 Tn Ta Fn Fa Ba Rn Ra Rb Rd Ua Wg Wz Ww Wr Mh Mn Mm Mt Mk Ms Me Mp Mw Ml My Oa Od (nI x)) (lc_15 i1 i2 i3 i4 Tn Ta Fn Fa Ba Rn Ra Rb Rd Ua Wg Wz Ww Wr Mh Mn Mm Mt Mk Ms Me Mp Mw Ml My Oa Od hT)
      rw [if_neg o15]
      by_cases o16 : o = 16
      · rw [if_pos o16]
        exact go (fun k28 => fL_law_J1099 100000 L xs k28 Tn Ta Fn Fa Ba Rn Ra Rb Rd Ua Wg Wz Ww Wr Mh Mn Mm Mt Mk Ms Me Mp Mw Ml My Oa Od (nI x)) (lc_16 i1 i2 i3 i4 Tn Ta Fn Fa Ba Rn Ra Rb Rd Ua Wg Wz Ww Wr Mh Mn Mm Mt Mk Ms Me Mp Mw Ml My Oa Od hT)
      rw [if_neg o16]
      by_cases o17 : o = 17
      · rw [if_pos o17]
        exact go (fun k28 => fL_law_J1155 100000 L xs k28 Tn Ta Fn Fa Ba Rn Ra Rb Rd Ua Wg Wz Ww Wr Mh Mn Mm Mt Mk Ms Me Mp Mw Ml My Oa Od (nI x)) (lc_17 i1 i2 i3 i4 Tn Ta Fn Fa Ba Rn Ra Rb Rd Ua Wg Wz Ww Wr Mh Mn Mm Mt Mk Ms Me Mp Mw Ml My Oa Od hT)
      rw [if_neg o17]
      by_cases o18 : o = 18
      · rw [if_pos o18]
        exact go (fun k28 => fL_law_J1211 100000 L xs k28 Tn Ta Fn Fa Ba Rn Ra Rb Rd Ua Wg Wz Ww Wr Mh Mn Mm Mt Mk Ms Me Mp Mw Ml My Oa Od (nI x)) (lc_18 i1 i2 i3 i4 Tn Ta Fn Fa Ba Rn Ra Rb Rd Ua Wg Wz Ww Wr Mh Mn Mm Mt Mk Ms Me Mp Mw Ml My Oa Od hT)
      rw [if_neg o18]
      by_cases o19 : o = 19
      · rw [if_pos o19]
        exact go (fun k28 => fL_law_J1267 100000 L xs k28 Tn Ta Fn Fa Ba Rn Ra Rb Rd Ua Wg Wz Ww Wr Mh Mn Mm Mt Mk Ms Me Mp Mw Ml My Oa Od (nI x)) (lc_19 i1 i2 i3 i4 Tn Ta Fn Fa Ba Rn Ra Rb Rd Ua Wg Wz Ww Wr Mh Mn Mm Mt Mk Ms Me Mp Mw Ml My Oa Od hT)
      rw [if_neg o19]
      by_cases o20 : o = 20
      · rw [if_pos o20]
        exact go (fun k28 => fL_law_J1351 100000 L xs k28 Tn Ta Fn Fa Ba Rn Ra Rb Rd Ua Wg Wz Ww Wr Mh Mn Mm Mt Mk Ms Me Mp Mw Ml My Oa Od (nI x)) (lc_20 i1 i2 i3 i4 Tn Ta Fn Fa Ba Rn Ra Rb Rd Ua Wg Wz Ww Wr Mh Mn Mm Mt Mk Ms Me Mp Mw Ml My Oa Od hT)
      rw [if_neg o20]
      by_cases o21 : o = 21
      · rw [if_pos o21]
        exact go (fun k28 => fL_law_J1419 100000 L xs k28 Tn Ta Fn Fa Ba Rn Ra Rb Rd Ua Wg Wz Ww Wr Mh Mn Mm Mt Mk Ms Me Mp Mw Ml My Oa Od (nI x)) (lc_21 i1 i2 i3 i4 Tn Ta Fn Fa Ba Rn Ra Rb Rd Ua Wg Wz Ww Wr Mh Mn Mm Mt Mk Ms Me Mp Mw Ml My Oa Od hT)
      rw [if_neg o21]
      by_cases o22 : o = 22
      · rw [if_pos o22]
        exact go (fun k28 => fL_law_J1487 100000 L xs k28 Tn Ta Fn Fa Ba Rn Ra Rb Rd Ua Wg Wz Ww Wr Mh Mn Mm Mt Mk Ms Me Mp Mw Ml My Oa Od (nI x)) (lc_22 i1 i2 i3 i4 Tn Ta Fn Fa Ba Rn Ra Rb Rd Ua Wg Wz Ww Wr Mh Mn Mm Mt Mk Ms Me Mp Mw Ml My Oa Od hT)
      rw [if_neg o22]
      by_cases o23 : o = 23
      · rw [if_pos o23]
        exact go (fun k28 => fL_law_J1555 100000 L xs k28 Tn Ta Fn Fa Ba Rn Ra Rb Rd Ua Wg Wz Ww Wr Mh Mn Mm Mt Mk Ms Me Mp Mw Ml My Oa Od (nI x)) (lc_23 i1 i2 i3 i4 Tn Ta Fn Fa Ba Rn Ra Rb Rd Ua Wg Wz Ww Wr Mh Mn Mm Mt Mk Ms Me Mp Mw Ml My Oa Od hT)
      rw [if_neg o23]
      by_cases o24 : o = 24
      · rw [if_pos o24]
        exact go (fun k28 => fL_law_J1623 100000 L xs k28 Tn Ta Fn Fa Ba Rn Ra Rb Rd Ua Wg Wz Ww Wr Mh Mn Mm Mt Mk Ms Me Mp Mw Ml My Oa Od (nI x)) (lc_24 i1 i2 i3 i4 Tn Ta Fn Fa Ba Rn Ra Rb Rd Ua Wg Wz Ww Wr Mh Mn Mm Mt Mk Ms Me Mp Mw Ml My Oa Od hT)
      rw [if_neg o24]
      by_cases o25 : o = 25
      · rw [if_pos o25]
        exact go (fun k28 => fL_law_J1698 100000 L xs k28 Tn Ta Fn Fa Ba Rn Ra Rb Rd Ua Wg Wz Ww Wr Mh Mn Mm Mt Mk Ms Me Mp Mw Ml My Oa Od (nI x)) (lc_25 i1 i2 i3 i4 Tn Ta Fn Fa Ba Rn Ra Rb Rd Ua Wg Wz Ww Wr Mh Mn Mm Mt Mk Ms Me Mp Mw Ml My Oa Od hT)
      rw [if_neg o25]
      by_cases o26 : o = 26
      · rw [if_pos o26]
        exact go (fun k28 => fL_law_J1766 100000 L xs k28 Tn Ta Fn Fa Ba Rn Ra Rb Rd Ua Wg Wz Ww Wr Mh Mn Mm Mt Mk Ms Me Mp Mw Ml My Oa Od (nI x)) (lc_26 i1 i2 i3 i4 Tn Ta Fn Fa Ba Rn Ra Rb Rd Ua Wg Wz Ww Wr Mh Mn Mm Mt Mk Ms Me Mp Mw Ml My Oa Od hT)
      rw [if_neg o26]
      by_cases o27 : o = 27
      · rw [if_pos o27]
        exact go (fun k28 => fL_law_J1834 100000 L xs k28 Tn Ta Fn Fa Ba Rn Ra Rb Rd Ua Wg Wz Ww Wr Mh Mn Mm Mt Mk Ms Me Mp Mw Ml My Oa Od (nI x)) (lc_27 i1 i2 i3 i4 Tn Ta Fn Fa Ba Rn Ra Rb Rd Ua Wg Wz Ww Wr Mh Mn Mm Mt Mk Ms Me Mp Mw Ml My Oa Od hT)
      rw [if_neg o27]
      by_cases o28 : o = 28
      · rw [if_pos o28]
        exact go (fun k28 => fL_law_J1921 100000 L xs k28 Tn Ta Fn Fa Ba Rn Ra Rb Rd Ua Wg Wz Ww Wr Mh Mn Mm Mt Mk Ms Me Mp Mw Ml My Oa Od (nI x)) (lc_28 i1 i2 i3 i4 Tn Ta Fn Fa Ba Rn Ra Rb Rd Ua Wg Wz Ww Wr Mh Mn Mm Mt Mk Ms Me Mp Mw Ml My Oa Od hT)
      rw [if_neg o28]
      by_cases o29 : o = 29
      · rw [if_pos o29]
        exact go (fun k28 => fL_law_J1989 100000 L xs k28 Tn Ta Fn Fa Ba Rn Ra Rb Rd Ua Wg Wz Ww Wr Mh Mn Mm Mt Mk Ms Me Mp Mw Ml My Oa Od (nI x)) (lc_29 i1 i2 i3 i4 Tn Ta Fn Fa Ba Rn Ra Rb Rd Ua Wg Wz Ww Wr Mh Mn Mm Mt Mk Ms Me Mp Mw Ml My Oa Od hT)
      rw [if_neg o29]
      by_cases o30 : o = 30
      · rw [if_pos o30]
        exact go (fun k28 => fL_law_J2057 100000 L xs k28 Tn Ta Fn Fa Ba Rn Ra Rb Rd Ua Wg Wz Ww Wr Mh Mn Mm Mt Mk Ms Me Mp Mw Ml My Oa Od (nI x)) (lc_30 i1 i2 i3 i4 Tn Ta Fn Fa Ba Rn Ra Rb Rd Ua Wg Wz Ww Wr Mh Mn Mm Mt Mk Ms Me Mp Mw Ml My Oa Od hT)
      rw [if_neg o30]
      by_cases o31 : o = 31
      · rw [if_pos o31]
        exact go (fun k28 => fL_law_J2125 100000 L xs k28 Tn Ta Fn Fa Ba Rn Ra Rb Rd Ua Wg Wz Ww Wr Mh Mn Mm Mt Mk Ms Me Mp Mw Ml My Oa Od (nI x)) (lc_31 i1 i2 i3 i4 Tn Ta Fn Fa Ba Rn Ra Rb Rd Ua Wg Wz Ww Wr Mh Mn Mm Mt Mk Ms Me Mp Mw Ml My Oa Od hT)
      rw [if_neg o31]
      by_cases o32 : o = 32
      · rw [if_pos o32]
        exact go (fun k28 => fL_law_J2214 100000 L xs k28 Tn Ta Fn Fa Ba Rn Ra Rb Rd Ua Wg Wz Ww Wr Mh Mn Mm Mt Mk Ms Me Mp Mw Ml My Oa Od (nI x)) (lc_32 i1 i2 i3 i4 Tn Ta Fn Fa Ba Rn Ra Rb Rd Ua Wg Wz Ww Wr Mh Mn Mm Mt Mk Ms Me Mp Mw Ml My Oa Od hT)
      rw [if_neg o32]
      by_cases o33 : o = 33
      · rw [if_pos o33]
        exact go (fun k28 => fL_law_J2227 100000 L xs k28 Tn Ta Fn Fa Ba Rn Ra Rb Rd Ua Wg Wz Ww Wr Mh Mn Mm Mt Mk Ms Me Mp Mw Ml My Oa Od (nI x)) (lc_33 i1 i2 i3 i4 Tn Ta Fn Fa Ba Rn Ra Rb Rd Ua Wg Wz Ww Wr Mh Mn Mm Mt Mk Ms Me Mp Mw Ml My Oa Od hT)
      rw [if_neg o33]
      by_cases o34 : o = 34
      · rw [if_pos o34]
        exact go (fun k28 => fL_law_J2283 100000 L xs k28 Tn Ta Fn Fa Ba Rn Ra Rb Rd Ua Wg Wz Ww Wr Mh Mn Mm Mt Mk Ms Me Mp Mw Ml My Oa Od (nI x)) (lc_34 i1 i2 i3 i4 Tn Ta Fn Fa Ba Rn Ra Rb Rd Ua Wg Wz Ww Wr Mh Mn Mm Mt Mk Ms Me Mp Mw Ml My Oa Od hT)
      rw [if_neg o34]
      by_cases o35 : o = 35
      · rw [if_pos o35]
        exact go (fun k28 => fL_law_J2339 100000 L xs k28 Tn Ta Fn Fa Ba Rn Ra Rb Rd Ua Wg Wz Ww Wr Mh Mn Mm Mt Mk Ms Me Mp Mw Ml My Oa Od (nI x)) (lc_35 i1 i2 i3 i4 Tn Ta Fn Fa Ba Rn Ra Rb Rd Ua Wg Wz Ww Wr Mh Mn Mm Mt Mk Ms Me Mp Mw Ml My Oa Od hT)
      rw [if_neg o35]
      by_cases o36 : o = 36
      · rw [if_pos o36]
        exact go (fun k28 => fL_law_J2395 100000 L xs k28 Tn Ta Fn Fa Ba Rn Ra Rb Rd Ua Wg Wz Ww Wr Mh Mn Mm Mt Mk Ms Me Mp Mw Ml My Oa Od (nI x)) (lc_36 i1 i2 i3 i4 Tn Ta Fn Fa Ba Rn Ra Rb Rd Ua Wg Wz Ww Wr Mh Mn Mm Mt Mk Ms Me Mp Mw Ml My Oa Od hT)
      rw [if_neg o36]
      by_cases o37 : o = 37
      · rw [if_pos o37]
        exact go (fun k28 => fL_law_J2451 100000 L xs k28 Tn Ta Fn Fa Ba Rn Ra Rb Rd Ua Wg Wz Ww Wr Mh Mn Mm Mt Mk Ms Me Mp Mw Ml My Oa Od (nI x)) (lc_37 i1 i2 i3 i4 Tn Ta Fn Fa Ba Rn Ra Rb Rd Ua Wg Wz Ww Wr Mh Mn Mm Mt Mk Ms Me Mp Mw Ml My Oa Od hT)
      rw [if_neg o37]
      by_cases o38 : o = 38
      · rw [if_pos o38]
        exact go (fun k28 => fL_law_J2492 100000 L xs k28 Tn Ta Fn Fa Ba Rn Ra Rb Rd Ua Wg Wz Ww Wr Mh Mn Mm Mt Mk Ms Me Mp Mw Ml My Oa Od (nI x)) (lc_38 i1 i2 i3 i4 Tn Ta Fn Fa Ba Rn Ra Rb Rd Ua Wg Wz Ww Wr Mh Mn Mm Mt Mk Ms Me Mp Mw Ml My Oa Od hT)
      rw [if_neg o38]
      by_cases o39 : o = 39
      · rw [if_pos o39]
        exact go (fun k28 => fL_law_J2505 100000 L xs k28 Tn Ta Fn Fa Ba Rn Ra Rb Rd Ua Wg Wz Ww Wr Mh Mn Mm Mt Mk Ms Me Mp Mw Ml My Oa Od (nI x)) (lc_39 i1 i2 i3 i4 Tn Ta Fn Fa Ba Rn Ra Rb Rd Ua Wg Wz Ww Wr Mh Mn Mm Mt Mk Ms Me Mp Mw Ml My Oa Od hT)
      rw [if_neg o39]
      by_cases o40 : o = 40
      · rw [if_pos o40]
        exact go (fun k28 => fL_law_J2561 100000 L xs k28 Tn Ta Fn Fa Ba Rn Ra Rb Rd Ua Wg Wz Ww Wr Mh Mn Mm Mt Mk Ms Me Mp Mw Ml My Oa Od (nI x)) (lc_40 i1 i2 i3 i4 Tn Ta Fn Fa Ba Rn Ra Rb Rd Ua Wg Wz Ww Wr Mh Mn Mm Mt Mk Ms Me Mp Mw Ml My Oa Od hT)
      rw [if_neg o40]
      by_cases o41 : o = 41
      · rw [if_pos o41]
        exact go (fun k28 => fL_law_J2617 100000 L xs k28 Tn Ta Fn Fa Ba Rn Ra Rb Rd Ua Wg Wz Ww Wr Mh Mn Mm Mt Mk Ms Me Mp Mw Ml My Oa Od (nI x)) (lc_41 i1 i2 i3 i4 Tn Ta Fn Fa Ba Rn Ra Rb Rd Ua Wg Wz Ww Wr Mh Mn Mm Mt Mk Ms Me Mp Mw Ml My Oa Od hT)
      rw [if_neg o41]
      by_cases o42 : o = 42
      · rw [if_pos o42]
        exact go (fun k28 => fL_law_J2684 100000 L xs k28 Tn Ta Fn Fa Ba Rn Ra Rb Rd Ua Wg Wz Ww Wr Mh Mn Mm Mt Mk Ms Me Mp Mw Ml My Oa Od (nI x)) (lc_42 i1 i2 i3 i4 Tn Ta Fn Fa Ba Rn Ra Rb Rd Ua Wg Wz Ww Wr Mh Mn Mm Mt Mk Ms Me Mp Mw Ml My Oa Od hT)
      rw [if_neg o42]
      exact go (fun k28 => fL_law_J2751 100000 L xs k28 Tn Ta Fn Fa Ba Rn Ra Rb Rd Ua Wg Wz Ww Wr Mh Mn Mm Mt Mk Ms Me Mp Mw Ml My Oa Od (nI x)) (lc_43 i1 i2 i3 i4 Tn Ta Fn Fa Ba Rn Ra Rb Rd Ua Wg Wz Ww Wr Mh Mn Mm Mt Mk Ms Me Mp Mw Ml My Oa Od hT)
theorem law_pure (L : Nat) (hL : L ≤ 2560) (xs : Nat → Int32) : fL_law_H28 100000 L xs 600 0 (fun _ => 0) 0 (fun _ => 0) (fun _ => 0) 0 (fun _ => 0) (fun _ => 0) (fun _ => 0) (fun _ => 0) 0 1 0 1 0 0 0 (fun _ => 0) (fun _ => 0) (fun _ => 0) (fun _ => 0) (fun _ => 0) (fun _ => 0) (fun _ => 0) (fun _ => 0) (fun _ => 0) (fun _ => 0) 0 = some 1 :=
  law_H hL xs 600 0 _ _ _ _ _ _ _ _ _ _ _ _ _ _ _ _ _ _ _ _ _ _ _ _ _ _ _ ⟨0, rfl, rfl, by omega, fun j hj => by omega⟩ (by omega) (by omega)
