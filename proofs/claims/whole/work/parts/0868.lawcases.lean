/-! the law: every call goes on -/
def GoesOn (X : (Int32 → (Nat → Int32) → Int32 → (Nat → Int32) → (Nat → Int32) → Int32 → (Nat → Int32) → (Nat → Int32) → (Nat → Int32) → (Nat → Int32) → Int32 → Int32 → Int32 → Int32 → Int32 → Int32 → Int32 → (Nat → Int32) → (Nat → Int32) → (Nat → Int32) → (Nat → Int32) → (Nat → Int32) → (Nat → Int32) → (Nat → Int32) → (Nat → Int64) → (Nat → Int64) → (Nat → UInt64) → Int32 → Option Int32) → Option Int32) (x5 : Int32) : Prop := ∃ (Tn : Int32) (Ta : (Nat → Int32)) (Fn : Int32) (Fa : (Nat → Int32)) (Ba : (Nat → Int32)) (Rn : Int32) (Ra : (Nat → Int32)) (Rb : (Nat → Int32)) (Rd : (Nat → Int32)) (Ua : (Nat → Int32)) (Wg : Int32) (Wz : Int32) (Ww : Int32) (Wr : Int32) (Mh : Int32) (Mn : Int32) (Mm : Int32) (Mt : (Nat → Int32)) (Mk : (Nat → Int32)) (Ms : (Nat → Int32)) (Me : (Nat → Int32)) (Mp : (Nat → Int32)) (Mw : (Nat → Int32)) (Ml : (Nat → Int32)) (My : (Nat → Int64)) (Oa : (Nat → Int64)) (Od : (Nat → UInt64)), TwoR Tn Ta Mn Mt ∧ ∀ k, X k = k Tn Ta Fn Fa Ba Rn Ra Rb Rd Ua Wg Wz Ww Wr Mh Mn Mm Mt Mk Ms Me Mp Mw Ml My Oa Od (x5 + 5)
theorem tcn : (Int32.toNatClampNeg (0 : Int32)) = 0 := by decide
theorem lc_0 {L : Nat} {xs : Nat → Int32} {x5 : Int32} (h1 : inb (x5 + (1 : Int32)) L = true) (h2 : inb (x5 + (2 : Int32)) L = true) (h3 : inb (x5 + (3 : Int32)) L = true) (h4 : inb (x5 + (4 : Int32)) L = true) (Tn : Int32) (Ta : (Nat → Int32)) (Fn : Int32) (Fa : (Nat → Int32)) (Ba : (Nat → Int32)) (Rn : Int32) (Ra : (Nat → Int32)) (Rb : (Nat → Int32)) (Rd : (Nat → Int32)) (Ua : (Nat → Int32)) (Wg : Int32) (Wz : Int32) (Ww : Int32) (Wr : Int32) (Mh : Int32) (Mn : Int32) (Mm : Int32) (Mt : (Nat → Int32)) (Mk : (Nat → Int32)) (Ms : (Nat → Int32)) (Me : (Nat → Int32)) (Mp : (Nat → Int32)) (Mw : (Nat → Int32)) (Ml : (Nat → Int32)) (My : (Nat → Int64)) (Oa : (Nat → Int64)) (Od : (Nat → UInt64)) (hT : TwoR Tn Ta Mn Mt) : GoesOn (fun k28 => fL_law_J236 100000 L xs k28 Tn Ta Fn Fa Ba Rn Ra Rb Rd Ua Wg Wz Ww Wr Mh Mn Mm Mt Mk Ms Me Mp Mw Ml My Oa Od x5) x5 := by
  obtain ⟨n, rfl, rfl, h⟩ := hT
  obtain ⟨c, tn, ta, oa, r, mn, mt, e1, e2, e3, e4⟩ := ag_append (by decide : 100 ≤ 100000) h Oa Mh Mm (xs ((x5 + (1 : Int32))).toNatClampNeg)
  refine ⟨tn, ta, Fn, Fa, Ba, Rn, Ra, Rb, Rd, Ua, Wg, Wz, Ww, Wr, c, mn, Mm, mt, Mk, Ms, Me, Mp, Mw, Ml, My, oa, Od, ?hI, fun k => ?hk⟩
  case hk =>
    show fL_law_J236 100000 L xs k _ _ _ _ _ _ _ _ _ _ _ _ _ _ _ _ _ _ _ _ _ _ _ _ _ _ _ x5 = _
    unfold fL_law_J236 fX9_thrown
    simp only [h1, gd_t]
    rw [e1, bn_s, e2, bn_s, bn_s]
    dsimp only
    rw [if_pos rfl]
    by_cases hc : c = 0
    · rw [if_pos hc, inb01, gd_t, if_pos (show lg_cmp (oa (Int32.toNatClampNeg 0)) r.toInt64 = 0 from (lg_cmp_eq _ _).mpr (e4 hc))]; rfl
    · rw [if_neg hc]; rfl
  case hI => exact e3
theorem lc_1 {L : Nat} {xs : Nat → Int32} {x5 : Int32} (h1 : inb (x5 + (1 : Int32)) L = true) (h2 : inb (x5 + (2 : Int32)) L = true) (h3 : inb (x5 + (3 : Int32)) L = true) (h4 : inb (x5 + (4 : Int32)) L = true) (Tn : Int32) (Ta : (Nat → Int32)) (Fn : Int32) (Fa : (Nat → Int32)) (Ba : (Nat → Int32)) (Rn : Int32) (Ra : (Nat → Int32)) (Rb : (Nat → Int32)) (Rd : (Nat → Int32)) (Ua : (Nat → Int32)) (Wg : Int32) (Wz : Int32) (Ww : Int32) (Wr : Int32) (Mh : Int32) (Mn : Int32) (Mm : Int32) (Mt : (Nat → Int32)) (Mk : (Nat → Int32)) (Ms : (Nat → Int32)) (Me : (Nat → Int32)) (Mp : (Nat → Int32)) (Mw : (Nat → Int32)) (Ml : (Nat → Int32)) (My : (Nat → Int64)) (Oa : (Nat → Int64)) (Od : (Nat → UInt64)) (hT : TwoR Tn Ta Mn Mt) : GoesOn (fun k28 => fL_law_J292 100000 L xs k28 Tn Ta Fn Fa Ba Rn Ra Rb Rd Ua Wg Wz Ww Wr Mh Mn Mm Mt Mk Ms Me Mp Mw Ml My Oa Od x5) x5 := by
  obtain ⟨n, rfl, rfl, h⟩ := hT
  obtain ⟨c, tn, ta, oa, r, mn, mt, e1, e2, e3, e4⟩ := ag_insert (by decide : 100 ≤ 100000) h Oa Mh Mm (xs ((x5 + (1 : Int32))).toNatClampNeg) (xs ((x5 + (2 : Int32))).toNatClampNeg)
  refine ⟨tn, ta, Fn, Fa, Ba, Rn, Ra, Rb, Rd, Ua, Wg, Wz, Ww, Wr, c, mn, Mm, mt, Mk, Ms, Me, Mp, Mw, Ml, My, oa, Od, ?hI, fun k => ?hk⟩
  case hk =>
    show fL_law_J292 100000 L xs k _ _ _ _ _ _ _ _ _ _ _ _ _ _ _ _ _ _ _ _ _ _ _ _ _ _ _ x5 = _
    unfold fL_law_J292 fX9_thrown
    simp only [h1, h2, gd_t]
    rw [e1, bn_s, e2, bn_s, bn_s]
    dsimp only
    rw [if_pos rfl]
    by_cases hc : c = 0
    · rw [if_pos hc, inb01, gd_t, if_pos (show lg_cmp (oa (Int32.toNatClampNeg 0)) r.toInt64 = 0 from (lg_cmp_eq _ _).mpr (e4 hc))]; rfl
    · rw [if_neg hc]; rfl
  case hI => exact e3
theorem lc_2 {L : Nat} {xs : Nat → Int32} {x5 : Int32} (h1 : inb (x5 + (1 : Int32)) L = true) (h2 : inb (x5 + (2 : Int32)) L = true) (h3 : inb (x5 + (3 : Int32)) L = true) (h4 : inb (x5 + (4 : Int32)) L = true) (Tn : Int32) (Ta : (Nat → Int32)) (Fn : Int32) (Fa : (Nat → Int32)) (Ba : (Nat → Int32)) (Rn : Int32) (Ra : (Nat → Int32)) (Rb : (Nat → Int32)) (Rd : (Nat → Int32)) (Ua : (Nat → Int32)) (Wg : Int32) (Wz : Int32) (Ww : Int32) (Wr : Int32) (Mh : Int32) (Mn : Int32) (Mm : Int32) (Mt : (Nat → Int32)) (Mk : (Nat → Int32)) (Ms : (Nat → Int32)) (Me : (Nat → Int32)) (Mp : (Nat → Int32)) (Mw : (Nat → Int32)) (Ml : (Nat → Int32)) (My : (Nat → Int64)) (Oa : (Nat → Int64)) (Od : (Nat → UInt64)) (hT : TwoR Tn Ta Mn Mt) : GoesOn (fun k28 => fL_law_J360 100000 L xs k28 Tn Ta Fn Fa Ba Rn Ra Rb Rd Ua Wg Wz Ww Wr Mh Mn Mm Mt Mk Ms Me Mp Mw Ml My Oa Od x5) x5 := by
  obtain ⟨n, rfl, rfl, h⟩ := hT
  obtain ⟨c, ta, oa, r, mt, e1, e2, e3, e4⟩ := ag_set (by decide : 100 ≤ 100000) h Oa Mh Mm (xs ((x5 + (1 : Int32))).toNatClampNeg) (xs ((x5 + (2 : Int32))).toNatClampNeg)
  refine ⟨(nI n), ta, Fn, Fa, Ba, Rn, Ra, Rb, Rd, Ua, Wg, Wz, Ww, Wr, c, (nI n), Mm, mt, Mk, Ms, Me, Mp, Mw, Ml, My, oa, Od, ?hI, fun k => ?hk⟩
  case hk =>
    show fL_law_J360 100000 L xs k _ _ _ _ _ _ _ _ _ _ _ _ _ _ _ _ _ _ _ _ _ _ _ _ _ _ _ x5 = _
    unfold fL_law_J360 fX9_thrown
    simp only [h1, h2, gd_t]
    rw [e1, bn_s, e2, bn_s, bn_s]
    dsimp only
    rw [if_pos rfl]
    by_cases hc : c = 0
    · rw [if_pos hc, inb01, gd_t, if_pos (show lg_cmp (oa (Int32.toNatClampNeg 0)) r.toInt64 = 0 from (lg_cmp_eq _ _).mpr (e4 hc))]; rfl
    · rw [if_neg hc]; rfl
  case hI => exact ⟨n, rfl, rfl, e3⟩
theorem lc_3 {L : Nat} {xs : Nat → Int32} {x5 : Int32} (h1 : inb (x5 + (1 : Int32)) L = true) (h2 : inb (x5 + (2 : Int32)) L = true) (h3 : inb (x5 + (3 : Int32)) L = true) (h4 : inb (x5 + (4 : Int32)) L = true) (Tn : Int32) (Ta : (Nat → Int32)) (Fn : Int32) (Fa : (Nat → Int32)) (Ba : (Nat → Int32)) (Rn : Int32) (Ra : (Nat → Int32)) (Rb : (Nat → Int32)) (Rd : (Nat → Int32)) (Ua : (Nat → Int32)) (Wg : Int32) (Wz : Int32) (Ww : Int32) (Wr : Int32) (Mh : Int32) (Mn : Int32) (Mm : Int32) (Mt : (Nat → Int32)) (Mk : (Nat → Int32)) (Ms : (Nat → Int32)) (Me : (Nat → Int32)) (Mp : (Nat → Int32)) (Mw : (Nat → Int32)) (Ml : (Nat → Int32)) (My : (Nat → Int64)) (Oa : (Nat → Int64)) (Od : (Nat → UInt64)) (hT : TwoR Tn Ta Mn Mt) : GoesOn (fun k28 => fL_law_J428 100000 L xs k28 Tn Ta Fn Fa Ba Rn Ra Rb Rd Ua Wg Wz Ww Wr Mh Mn Mm Mt Mk Ms Me Mp Mw Ml My Oa Od x5) x5 := by
  obtain ⟨n, rfl, rfl, h⟩ := hT
  obtain ⟨c, tn, ta, oa, r, mn, mt, e1, e2, e3, e4⟩ := ag_remove (by decide : 100 ≤ 100000) h Oa Mh Mm (xs ((x5 + (1 : Int32))).toNatClampNeg)
  refine ⟨tn, ta, Fn, Fa, Ba, Rn, Ra, Rb, Rd, Ua, Wg, Wz, Ww, Wr, c, mn, Mm, mt, Mk, Ms, Me, Mp, Mw, Ml, My, oa, Od, ?hI, fun k => ?hk⟩
  case hk =>
    show fL_law_J428 100000 L xs k _ _ _ _ _ _ _ _ _ _ _ _ _ _ _ _ _ _ _ _ _ _ _ _ _ _ _ x5 = _
    unfold fL_law_J428 fX9_thrown
    simp only [h1, gd_t]
    rw [e1, bn_s, e2, bn_s, bn_s]
    dsimp only
    rw [if_pos rfl]
    by_cases hc : c = 0
    · rw [if_pos hc, inb01, gd_t, if_pos (show lg_cmp (oa (Int32.toNatClampNeg 0)) r.toInt64 = 0 from (lg_cmp_eq _ _).mpr (e4 hc))]; rfl
    · rw [if_neg hc]; rfl
  case hI => exact e3
theorem lc_4 {L : Nat} {xs : Nat → Int32} {x5 : Int32} (h1 : inb (x5 + (1 : Int32)) L = true) (h2 : inb (x5 + (2 : Int32)) L = true) (h3 : inb (x5 + (3 : Int32)) L = true) (h4 : inb (x5 + (4 : Int32)) L = true) (Tn : Int32) (Ta : (Nat → Int32)) (Fn : Int32) (Fa : (Nat → Int32)) (Ba : (Nat → Int32)) (Rn : Int32) (Ra : (Nat → Int32)) (Rb : (Nat → Int32)) (Rd : (Nat → Int32)) (Ua : (Nat → Int32)) (Wg : Int32) (Wz : Int32) (Ww : Int32) (Wr : Int32) (Mh : Int32) (Mn : Int32) (Mm : Int32) (Mt : (Nat → Int32)) (Mk : (Nat → Int32)) (Ms : (Nat → Int32)) (Me : (Nat → Int32)) (Mp : (Nat → Int32)) (Mw : (Nat → Int32)) (Ml : (Nat → Int32)) (My : (Nat → Int64)) (Oa : (Nat → Int64)) (Od : (Nat → UInt64)) (hT : TwoR Tn Ta Mn Mt) : GoesOn (fun k28 => fL_law_J484 100000 L xs k28 Tn Ta Fn Fa Ba Rn Ra Rb Rd Ua Wg Wz Ww Wr Mh Mn Mm Mt Mk Ms Me Mp Mw Ml My Oa Od x5) x5 := by
  obtain ⟨n, rfl, rfl, h⟩ := hT
  refine ⟨(0 : Int32), Ta, Fn, Fa, Ba, Rn, Ra, Rb, Rd, Ua, Wg, Wz, Ww, Wr, (0 : Int32), (0 : Int32), Mm, Mt, Mk, Ms, Me, Mp, Mw, Ml, My, Oa, Od, ?hI, fun k => ?hk⟩
  case hk =>
    show fL_law_J484 100000 L xs k _ _ _ _ _ _ _ _ _ _ _ _ _ _ _ _ _ _ _ _ _ _ _ _ _ _ _ x5 = _
    unfold fL_law_J484 fX8_clear fX9_clear fX2_count fX2_empty
    rw [bn_s, bn_s, bn_s, bn_s]
    dsimp only
    rw [if_pos rfl]; rfl
  case hI => exact ⟨0, rfl, rfl, by omega, fun j hj => by omega⟩
theorem lc_5 {L : Nat} {xs : Nat → Int32} {x5 : Int32} (h1 : inb (x5 + (1 : Int32)) L = true) (h2 : inb (x5 + (2 : Int32)) L = true) (h3 : inb (x5 + (3 : Int32)) L = true) (h4 : inb (x5 + (4 : Int32)) L = true) (Tn : Int32) (Ta : (Nat → Int32)) (Fn : Int32) (Fa : (Nat → Int32)) (Ba : (Nat → Int32)) (Rn : Int32) (Ra : (Nat → Int32)) (Rb : (Nat → Int32)) (Rd : (Nat → Int32)) (Ua : (Nat → Int32)) (Wg : Int32) (Wz : Int32) (Ww : Int32) (Wr : Int32) (Mh : Int32) (Mn : Int32) (Mm : Int32) (Mt : (Nat → Int32)) (Mk : (Nat → Int32)) (Ms : (Nat → Int32)) (Me : (Nat → Int32)) (Mp : (Nat → Int32)) (Mw : (Nat → Int32)) (Ml : (Nat → Int32)) (My : (Nat → Int64)) (Oa : (Nat → Int64)) (Od : (Nat → UInt64)) (hT : TwoR Tn Ta Mn Mt) : GoesOn (fun k28 => fL_law_J497 100000 L xs k28 Tn Ta Fn Fa Ba Rn Ra Rb Rd Ua Wg Wz Ww Wr Mh Mn Mm Mt Mk Ms Me Mp Mw Ml My Oa Od x5) x5 := by
  obtain ⟨n, rfl, rfl, h⟩ := hT
  obtain ⟨ta, mt, mk, e1, e2, e3⟩ := ag_reverse (by decide : 100 ≤ 100000) h Mh Mm Mk
  refine ⟨(nI n), ta, Fn, Fa, Ba, Rn, Ra, Rb, Rd, Ua, Wg, Wz, Ww, Wr, (0 : Int32), (nI n), Mm, mt, mk, Ms, Me, Mp, Mw, Ml, My, Oa, Od, ?hI, fun k => ?hk⟩
  case hk =>
    show fL_law_J497 100000 L xs k _ _ _ _ _ _ _ _ _ _ _ _ _ _ _ _ _ _ _ _ _ _ _ _ _ _ _ x5 = _
    unfold fL_law_J497
    rw [e1, bn_s, e2, bn_s]
    dsimp only
    rw [if_pos rfl]; rfl
  case hI => exact ⟨n, rfl, rfl, e3⟩
theorem lc_6 {L : Nat} {xs : Nat → Int32} {x5 : Int32} (h1 : inb (x5 + (1 : Int32)) L = true) (h2 : inb (x5 + (2 : Int32)) L = true) (h3 : inb (x5 + (3 : Int32)) L = true) (h4 : inb (x5 + (4 : Int32)) L = true) (Tn : Int32) (Ta : (Nat → Int32)) (Fn : Int32) (Fa : (Nat → Int32)) (Ba : (Nat → Int32)) (Rn : Int32) (Ra : (Nat → Int32)) (Rb : (Nat → Int32)) (Rd : (Nat → Int32)) (Ua : (Nat → Int32)) (Wg : Int32) (Wz : Int32) (Ww : Int32) (Wr : Int32) (Mh : Int32) (Mn : Int32) (Mm : Int32) (Mt : (Nat → Int32)) (Mk : (Nat → Int32)) (Ms : (Nat → Int32)) (Me : (Nat → Int32)) (Mp : (Nat → Int32)) (Mw : (Nat → Int32)) (Ml : (Nat → Int32)) (My : (Nat → Int64)) (Oa : (Nat → Int64)) (Od : (Nat → UInt64)) (hT : TwoR Tn Ta Mn Mt) : GoesOn (fun k28 => fL_law_J510 100000 L xs k28 Tn Ta Fn Fa Ba Rn Ra Rb Rd Ua Wg Wz Ww Wr Mh Mn Mm Mt Mk Ms Me Mp Mw Ml My Oa Od x5) x5 := by
  obtain ⟨n, rfl, rfl, h⟩ := hT
  obtain ⟨c, ta, oa, r, mt, mk, e1, e2, e3, e4⟩ := ag_rotate (by decide : 100 ≤ 100000) h Oa Mh Mm (xs ((x5 + (1 : Int32))).toNatClampNeg) Mk
  refine ⟨(nI n), ta, Fn, Fa, Ba, Rn, Ra, Rb, Rd, Ua, Wg, Wz, Ww, Wr, c, (nI n), Mm, mt, mk, Ms, Me, Mp, Mw, Ml, My, oa, Od, ?hI, fun k => ?hk⟩
  case hk =>
    show fL_law_J510 100000 L xs k _ _ _ _ _ _ _ _ _ _ _ _ _ _ _ _ _ _ _ _ _ _ _ _ _ _ _ x5 = _
    unfold fL_law_J510 fX9_thrown
    simp only [h1, gd_t]
    rw [e1, bn_s, e2, bn_s, bn_s]
    dsimp only
    rw [if_pos rfl]
    by_cases hc : c = 0
    · rw [if_pos hc, inb01, gd_t, if_pos (show lg_cmp (oa (Int32.toNatClampNeg 0)) r.toInt64 = 0 from (lg_cmp_eq _ _).mpr (e4 hc))]; rfl
    · rw [if_neg hc]; rfl
  case hI => exact ⟨n, rfl, rfl, e3⟩
theorem lc_7 {L : Nat} {xs : Nat → Int32} {x5 : Int32} (h1 : inb (x5 + (1 : Int32)) L = true) (h2 : inb (x5 + (2 : Int32)) L = true) (h3 : inb (x5 + (3 : Int32)) L = true) (h4 : inb (x5 + (4 : Int32)) L = true) (Tn : Int32) (Ta : (Nat → Int32)) (Fn : Int32) (Fa : (Nat → Int32)) (Ba : (Nat → Int32)) (Rn : Int32) (Ra : (Nat → Int32)) (Rb : (Nat → Int32)) (Rd : (Nat → Int32)) (Ua : (Nat → Int32)) (Wg : Int32) (Wz : Int32) (Ww : Int32) (Wr : Int32) (Mh : Int32) (Mn : Int32) (Mm : Int32) (Mt : (Nat → Int32)) (Mk : (Nat → Int32)) (Ms : (Nat → Int32)) (Me : (Nat → Int32)) (Mp : (Nat → Int32)) (Mw : (Nat → Int32)) (Ml : (Nat → Int32)) (My : (Nat → Int64)) (Oa : (Nat → Int64)) (Od : (Nat → UInt64)) (hT : TwoR Tn Ta Mn Mt) : GoesOn (fun k28 => fL_law_J566 100000 L xs k28 Tn Ta Fn Fa Ba Rn Ra Rb Rd Ua Wg Wz Ww Wr Mh Mn Mm Mt Mk Ms Me Mp Mw Ml My Oa Od x5) x5 := by
  obtain ⟨n, rfl, rfl, h⟩ := hT
  obtain ⟨c, tn, ta, oa, r, mn, mt, e1, e2, e3, e4⟩ := ag_appendPart (by decide : 100 ≤ 100000) h Oa Mh Mm (xs ((x5 + (1 : Int32))).toNatClampNeg) (xs ((x5 + (2 : Int32))).toNatClampNeg)
  refine ⟨tn, ta, Fn, Fa, Ba, Rn, Ra, Rb, Rd, Ua, Wg, Wz, Ww, Wr, c, mn, Mm, mt, Mk, Ms, Me, Mp, Mw, Ml, My, oa, Od, ?hI, fun k => ?hk⟩
  case hk =>
    show fL_law_J566 100000 L xs k _ _ _ _ _ _ _ _ _ _ _ _ _ _ _ _ _ _ _ _ _ _ _ _ _ _ _ x5 = _
    unfold fL_law_J566 fX9_thrown
    simp only [h1, h2, gd_t]
    rw [e1, bn_s, e2, bn_s, bn_s]
    dsimp only
    rw [if_pos rfl]
    by_cases hc : c = 0
    · rw [if_pos hc, inb01, gd_t, if_pos (show lg_cmp (oa (Int32.toNatClampNeg 0)) r.toInt64 = 0 from (lg_cmp_eq _ _).mpr (e4 hc))]; rfl
    · rw [if_neg hc]; rfl
  case hI => exact e3
theorem lc_8 {L : Nat} {xs : Nat → Int32} {x5 : Int32} (h1 : inb (x5 + (1 : Int32)) L = true) (h2 : inb (x5 + (2 : Int32)) L = true) (h3 : inb (x5 + (3 : Int32)) L = true) (h4 : inb (x5 + (4 : Int32)) L = true) (Tn : Int32) (Ta : (Nat → Int32)) (Fn : Int32) (Fa : (Nat → Int32)) (Ba : (Nat → Int32)) (Rn : Int32) (Ra : (Nat → Int32)) (Rb : (Nat → Int32)) (Rd : (Nat → Int32)) (Ua : (Nat → Int32)) (Wg : Int32) (Wz : Int32) (Ww : Int32) (Wr : Int32) (Mh : Int32) (Mn : Int32) (Mm : Int32) (Mt : (Nat → Int32)) (Mk : (Nat → Int32)) (Ms : (Nat → Int32)) (Me : (Nat → Int32)) (Mp : (Nat → Int32)) (Mw : (Nat → Int32)) (Ml : (Nat → Int32)) (My : (Nat → Int64)) (Oa : (Nat → Int64)) (Od : (Nat → UInt64)) (hT : TwoR Tn Ta Mn Mt) : GoesOn (fun k28 => fL_law_J634 100000 L xs k28 Tn Ta Fn Fa Ba Rn Ra Rb Rd Ua Wg Wz Ww Wr Mh Mn Mm Mt Mk Ms Me Mp Mw Ml My Oa Od x5) x5 := by
  obtain ⟨n, rfl, rfl, h⟩ := hT
  obtain ⟨c, tn, ta, wg, wz, ww, wr, oa, r, mn, mt, mw, ml, e1, e2, e3, e4⟩ := ag_loadDeBruijn dbOk h Wg Wz Ww Wr Oa Mh Mm Mw Ml (xs ((x5 + (1 : Int32))).toNatClampNeg) (xs ((x5 + (2 : Int32))).toNatClampNeg)
  refine ⟨tn, ta, Fn, Fa, Ba, Rn, Ra, Rb, Rd, Ua, wg, wz, ww, wr, c, mn, Mm, mt, Mk, Ms, Me, Mp, mw, ml, My, oa, Od, ?hI, fun k => ?hk⟩
  case hk =>
    show fL_law_J634 100000 L xs k _ _ _ _ _ _ _ _ _ _ _ _ _ _ _ _ _ _ _ _ _ _ _ _ _ _ _ x5 = _
    unfold fL_law_J634 fX9_thrown
    simp only [h1, h2, gd_t]
    rw [e1, bn_s, e2, bn_s, bn_s]
    dsimp only
    rw [if_pos rfl]
    by_cases hc : c = 0
    · rw [if_pos hc, inb01, gd_t, if_pos (show lg_cmp (oa (Int32.toNatClampNeg 0)) r.toInt64 = 0 from (lg_cmp_eq _ _).mpr (e4 hc))]; rfl
    · rw [if_neg hc]; rfl
  case hI => exact e3
theorem lc_9 {L : Nat} {xs : Nat → Int32} {x5 : Int32} (h1 : inb (x5 + (1 : Int32)) L = true) (h2 : inb (x5 + (2 : Int32)) L = true) (h3 : inb (x5 + (3 : Int32)) L = true) (h4 : inb (x5 + (4 : Int32)) L = true) (Tn : Int32) (Ta : (Nat → Int32)) (Fn : Int32) (Fa : (Nat → Int32)) (Ba : (Nat → Int32)) (Rn : Int32) (Ra : (Nat → Int32)) (Rb : (Nat → Int32)) (Rd : (Nat → Int32)) (Ua : (Nat → Int32)) (Wg : Int32) (Wz : Int32) (Ww : Int32) (Wr : Int32) (Mh : Int32) (Mn : Int32) (Mm : Int32) (Mt : (Nat → Int32)) (Mk : (Nat → Int32)) (Ms : (Nat → Int32)) (Me : (Nat → Int32)) (Mp : (Nat → Int32)) (Mw : (Nat → Int32)) (Ml : (Nat → Int32)) (My : (Nat → Int64)) (Oa : (Nat → Int64)) (Od : (Nat → UInt64)) (hT : TwoR Tn Ta Mn Mt) : GoesOn (fun k28 => fL_law_J702 100000 L xs k28 Tn Ta Fn Fa Ba Rn Ra Rb Rd Ua Wg Wz Ww Wr Mh Mn Mm Mt Mk Ms Me Mp Mw Ml My Oa Od x5) x5 := by
  obtain ⟨n, rfl, rfl, h⟩ := hT
  obtain ⟨c, tn, ta, wg, wz, ww, wr, oa, r, mn, mt, mw, e1, e2, e3, e4⟩ := ag_loadNecklace (fun _ _ => walkOk) h Wg Wz Ww Wr Oa Mh Mm Mw (xs ((x5 + (1 : Int32))).toNatClampNeg) (xs ((x5 + (2 : Int32))).toNatClampNeg) (xs ((x5 + (3 : Int32))).toNatClampNeg)
  refine ⟨tn, ta, Fn, Fa, Ba, Rn, Ra, Rb, Rd, Ua, wg, wz, ww, wr, c, mn, Mm, mt, Mk, Ms, Me, Mp, mw, Ml, My, oa, Od, ?hI, fun k => ?hk⟩
  case hk =>
    show fL_law_J702 100000 L xs k _ _ _ _ _ _ _ _ _ _ _ _ _ _ _ _ _ _ _ _ _ _ _ _ _ _ _ x5 = _
    unfold fL_law_J702 fX9_thrown
    simp only [h1, h2, h3, gd_t]
    rw [e1, bn_s, e2, bn_s, bn_s]
    dsimp only
    rw [if_pos rfl]
    by_cases hc : c = 0
    · rw [if_pos hc, inb01, gd_t, if_pos (show lg_cmp (oa (Int32.toNatClampNeg 0)) r.toInt64 = 0 from (lg_cmp_eq _ _).mpr (e4 hc))]; rfl
    · rw [if_neg hc]; rfl
  case hI => exact e3
theorem lc_10 {L : Nat} {xs : Nat → Int32} {x5 : Int32} (h1 : inb (x5 + (1 : Int32)) L = true) (h2 : inb (x5 + (2 : Int32)) L = true) (h3 : inb (x5 + (3 : Int32)) L = true) (h4 : inb (x5 + (4 : Int32)) L = true) (Tn : Int32) (Ta : (Nat → Int32)) (Fn : Int32) (Fa : (Nat → Int32)) (Ba : (Nat → Int32)) (Rn : Int32) (Ra : (Nat → Int32)) (Rb : (Nat → Int32)) (Rd : (Nat → Int32)) (Ua : (Nat → Int32)) (Wg : Int32) (Wz : Int32) (Ww : Int32) (Wr : Int32) (Mh : Int32) (Mn : Int32) (Mm : Int32) (Mt : (Nat → Int32)) (Mk : (Nat → Int32)) (Ms : (Nat → Int32)) (Me : (Nat → Int32)) (Mp : (Nat → Int32)) (Mw : (Nat → Int32)) (Ml : (Nat → Int32)) (My : (Nat → Int64)) (Oa : (Nat → Int64)) (Od : (Nat → UInt64)) (hT : TwoR Tn Ta Mn Mt) : GoesOn (fun k28 => fL_law_J782 100000 L xs k28 Tn Ta Fn Fa Ba Rn Ra Rb Rd Ua Wg Wz Ww Wr Mh Mn Mm Mt Mk Ms Me Mp Mw Ml My Oa Od x5) x5 := by
  obtain ⟨n, rfl, rfl, h⟩ := hT
  refine ⟨(nI n), Ta, Fn, Fa, Ba, Rn, Ra, Rb, Rd, Ua, Wg, Wz, Ww, Wr, (0 : Int32), (nI n), Mm, Mt, Mk, Ms, Me, Mp, Mw, Ml, My, Oa, Od, ?hI, fun k => ?hk⟩
  case hk =>
    show fL_law_J782 100000 L xs k _ _ _ _ _ _ _ _ _ _ _ _ _ _ _ _ _ _ _ _ _ _ _ _ _ _ _ x5 = _
    unfold fL_law_J782 fX8_length fX9_length fX2_count
    rw [bn_s, bn_s, bn_s]
    dsimp only
    rw [if_pos rfl]; rfl
  case hI => exact ⟨n, rfl, rfl, h⟩
theorem lc_11 {L : Nat} {xs : Nat → Int32} {x5 : Int32} (h1 : inb (x5 + (1 : Int32)) L = true) (h2 : inb (x5 + (2 : Int32)) L = true) (h3 : inb (x5 + (3 : Int32)) L = true) (h4 : inb (x5 + (4 : Int32)) L = true) (Tn : Int32) (Ta : (Nat → Int32)) (Fn : Int32) (Fa : (Nat → Int32)) (Ba : (Nat → Int32)) (Rn : Int32) (Ra : (Nat → Int32)) (Rb : (Nat → Int32)) (Rd : (Nat → Int32)) (Ua : (Nat → Int32)) (Wg : Int32) (Wz : Int32) (Ww : Int32) (Wr : Int32) (Mh : Int32) (Mn : Int32) (Mm : Int32) (Mt : (Nat → Int32)) (Mk : (Nat → Int32)) (Ms : (Nat → Int32)) (Me : (Nat → Int32)) (Mp : (Nat → Int32)) (Mw : (Nat → Int32)) (Ml : (Nat → Int32)) (My : (Nat → Int64)) (Oa : (Nat → Int64)) (Od : (Nat → UInt64)) (hT : TwoR Tn Ta Mn Mt) : GoesOn (fun k28 => fL_law_J795 100000 L xs k28 Tn Ta Fn Fa Ba Rn Ra Rb Rd Ua Wg Wz Ww Wr Mh Mn Mm Mt Mk Ms Me Mp Mw Ml My Oa Od x5) x5 := by
  obtain ⟨n, rfl, rfl, h⟩ := hT
  obtain ⟨c, oa, r, e1, e2, e4⟩ := ag_letterAt (by decide : 100 ≤ 100000) h Oa Mh Mm (xs ((x5 + (1 : Int32))).toNatClampNeg)
  refine ⟨(nI n), Ta, Fn, Fa, Ba, Rn, Ra, Rb, Rd, Ua, Wg, Wz, Ww, Wr, c, (nI n), Mm, Mt, Mk, Ms, Me, Mp, Mw, Ml, My, oa, Od, ?hI, fun k => ?hk⟩
  case hk =>
    show fL_law_J795 100000 L xs k _ _ _ _ _ _ _ _ _ _ _ _ _ _ _ _ _ _ _ _ _ _ _ _ _ _ _ x5 = _
    unfold fL_law_J795 fX9_thrown
    simp only [h1, gd_t]
    rw [e1, bn_s, e2, bn_s, bn_s]
    dsimp only
    rw [if_pos rfl]
    by_cases hc : c = 0
    · rw [if_pos hc, inb01, gd_t, if_pos (show lg_cmp (oa (Int32.toNatClampNeg 0)) r.toInt64 = 0 from (lg_cmp_eq _ _).mpr (e4 hc))]; rfl
    · rw [if_neg hc]; rfl
  case hI => exact ⟨n, rfl, rfl, h⟩
theorem lc_12 {L : Nat} {xs : Nat → Int32} {x5 : Int32} (h1 : inb (x5 + (1 : Int32)) L = true) (h2 : inb (x5 + (2 : Int32)) L = true) (h3 : inb (x5 + (3 : Int32)) L = true) (h4 : inb (x5 + (4 : Int32)) L = true) (Tn : Int32) (Ta : (Nat → Int32)) (Fn : Int32) (Fa : (Nat → Int32)) (Ba : (Nat → Int32)) (Rn : Int32) (Ra : (Nat → Int32)) (Rb : (Nat → Int32)) (Rd : (Nat → Int32)) (Ua : (Nat → Int32)) (Wg : Int32) (Wz : Int32) (Ww : Int32) (Wr : Int32) (Mh : Int32) (Mn : Int32) (Mm : Int32) (Mt : (Nat → Int32)) (Mk : (Nat → Int32)) (Ms : (Nat → Int32)) (Me : (Nat → Int32)) (Mp : (Nat → Int32)) (Mw : (Nat → Int32)) (Ml : (Nat → Int32)) (My : (Nat → Int64)) (Oa : (Nat → Int64)) (Od : (Nat → UInt64)) (hT : TwoR Tn Ta Mn Mt) : GoesOn (fun k28 => fL_law_J851 100000 L xs k28 Tn Ta Fn Fa Ba Rn Ra Rb Rd Ua Wg Wz Ww Wr Mh Mn Mm Mt Mk Ms Me Mp Mw Ml My Oa Od x5) x5 := by
  obtain ⟨n, rfl, rfl, h⟩ := hT
  obtain ⟨c, oa, r, e1, e2, e4⟩ := ag_compare (by decide : 100 ≤ 100000) h Oa Mh Mm (xs ((x5 + (1 : Int32))).toNatClampNeg) (xs ((x5 + (2 : Int32))).toNatClampNeg) (xs ((x5 + (3 : Int32))).toNatClampNeg) (xs ((x5 + (4 : Int32))).toNatClampNeg)
  refine ⟨(nI n), Ta, Fn, Fa, Ba, Rn, Ra, Rb, Rd, Ua, Wg, Wz, Ww, Wr, c, (nI n), Mm, Mt, Mk, Ms, Me, Mp, Mw, Ml, My, oa, Od, ?hI, fun k => ?hk⟩
  case hk =>
    show fL_law_J851 100000 L xs k _ _ _ _ _ _ _ _ _ _ _ _ _ _ _ _ _ _ _ _ _ _ _ _ _ _ _ x5 = _
    unfold fL_law_J851 fX9_thrown
    simp only [h1, h2, h3, h4, gd_t]
    rw [e1, bn_s, e2, bn_s, bn_s]
    dsimp only
    rw [if_pos rfl]
    by_cases hc : c = 0
    · rw [if_pos hc, inb01, gd_t, if_pos (show lg_cmp (oa (Int32.toNatClampNeg 0)) r.toInt64 = 0 from (lg_cmp_eq _ _).mpr (e4 hc))]; rfl
    · rw [if_neg hc]; rfl
  case hI => exact ⟨n, rfl, rfl, h⟩
theorem lc_13 {L : Nat} {xs : Nat → Int32} {x5 : Int32} (h1 : inb (x5 + (1 : Int32)) L = true) (h2 : inb (x5 + (2 : Int32)) L = true) (h3 : inb (x5 + (3 : Int32)) L = true) (h4 : inb (x5 + (4 : Int32)) L = true) (Tn : Int32) (Ta : (Nat → Int32)) (Fn : Int32) (Fa : (Nat → Int32)) (Ba : (Nat → Int32)) (Rn : Int32) (Ra : (Nat → Int32)) (Rb : (Nat → Int32)) (Rd : (Nat → Int32)) (Ua : (Nat → Int32)) (Wg : Int32) (Wz : Int32) (Ww : Int32) (Wr : Int32) (Mh : Int32) (Mn : Int32) (Mm : Int32) (Mt : (Nat → Int32)) (Mk : (Nat → Int32)) (Ms : (Nat → Int32)) (Me : (Nat → Int32)) (Mp : (Nat → Int32)) (Mw : (Nat → Int32)) (Ml : (Nat → Int32)) (My : (Nat → Int64)) (Oa : (Nat → Int64)) (Od : (Nat → UInt64)) (hT : TwoR Tn Ta Mn Mt) : GoesOn (fun k28 => fL_law_J943 100000 L xs k28 Tn Ta Fn Fa Ba Rn Ra Rb Rd Ua Wg Wz Ww Wr Mh Mn Mm Mt Mk Ms Me Mp Mw Ml My Oa Od x5) x5 := by
  obtain ⟨n, rfl, rfl, h⟩ := hT
  obtain ⟨c, oa, r, e1, e2, e4⟩ := ag_commonPrefix (by decide : 100 ≤ 100000) h Oa Mh Mm (xs ((x5 + (1 : Int32))).toNatClampNeg) (xs ((x5 + (2 : Int32))).toNatClampNeg)
  refine ⟨(nI n), Ta, Fn, Fa, Ba, Rn, Ra, Rb, Rd, Ua, Wg, Wz, Ww, Wr, c, (nI n), Mm, Mt, Mk, Ms, Me, Mp, Mw, Ml, My, oa, Od, ?hI, fun k => ?hk⟩
  case hk =>
    show fL_law_J943 100000 L xs k _ _ _ _ _ _ _ _ _ _ _ _ _ _ _ _ _ _ _ _ _ _ _ _ _ _ _ x5 = _
    unfold fL_law_J943 fX9_thrown
    simp only [h1, h2, gd_t]
    rw [e1, bn_s, e2, bn_s, bn_s]
    dsimp only
    rw [if_pos rfl]
    by_cases hc : c = 0
    · rw [if_pos hc, inb01, gd_t, if_pos (show lg_cmp (oa (Int32.toNatClampNeg 0)) r.toInt64 = 0 from (lg_cmp_eq _ _).mpr (e4 hc))]; rfl
    · rw [if_neg hc]; rfl
  case hI => exact ⟨n, rfl, rfl, h⟩
theorem lc_14 {L : Nat} {xs : Nat → Int32} {x5 : Int32} (h1 : inb (x5 + (1 : Int32)) L = true) (h2 : inb (x5 + (2 : Int32)) L = true) (h3 : inb (x5 + (3 : Int32)) L = true) (h4 : inb (x5 + (4 : Int32)) L = true) (Tn : Int32) (Ta : (Nat → Int32)) (Fn : Int32) (Fa : (Nat → Int32)) (Ba : (Nat → Int32)) (Rn : Int32) (Ra : (Nat → Int32)) (Rb : (Nat → Int32)) (Rd : (Nat → Int32)) (Ua : (Nat → Int32)) (Wg : Int32) (Wz : Int32) (Ww : Int32) (Wr : Int32) (Mh : Int32) (Mn : Int32) (Mm : Int32) (Mt : (Nat → Int32)) (Mk : (Nat → Int32)) (Ms : (Nat → Int32)) (Me : (Nat → Int32)) (Mp : (Nat → Int32)) (Mw : (Nat → Int32)) (Ml : (Nat → Int32)) (My : (Nat → Int64)) (Oa : (Nat → Int64)) (Od : (Nat → UInt64)) (hT : TwoR Tn Ta Mn Mt) : GoesOn (fun k28 => fL_law_J1011 100000 L xs k28 Tn Ta Fn Fa Ba Rn Ra Rb Rd Ua Wg Wz Ww Wr Mh Mn Mm Mt Mk Ms Me Mp Mw Ml My Oa Od x5) x5 := by
  obtain ⟨n, rfl, rfl, h⟩ := hT
  obtain ⟨c, oa, r, e1, e2, e4⟩ := ag_isLyndon (by decide : 100 ≤ 100000) h Oa Mh Mm (xs ((x5 + (1 : Int32))).toNatClampNeg) (xs ((x5 + (2 : Int32))).toNatClampNeg)
  refine ⟨(nI n), Ta, Fn, Fa, Ba, Rn, Ra, Rb, Rd, Ua, Wg, Wz, Ww, Wr, c, (nI n), Mm, Mt, Mk, Ms, Me, Mp, Mw, Ml, My, oa, Od, ?hI, fun k => ?hk⟩
  case hk =>
    show fL_law_J1011 100000 L xs k _ _ _ _ _ _ _ _ _ _ _ _ _ _ _ _ _ _ _ _ _ _ _ _ _ _ _ x5 = _
    unfold fL_law_J1011 fX9_thrown
    simp only [h1, h2, gd_t]
    rw [e1, bn_s, e2, bn_s, bn_s]
    dsimp only
    rw [if_pos rfl]
    by_cases hc : c = 0
    · rw [if_pos hc, inb01, gd_t]
      have e5 := e4 hc
      by_cases hr : r = 0
      · rw [if_pos hr] at e5 ⊢
        unfold fL_law_J1077
        rw [if_pos (show lg_cmp (oa (Int32.toNatClampNeg 0)) 0 = 0 from (lg_cmp_eq _ _).mpr e5)]; rfl
      · rw [if_neg hr] at e5 ⊢
        unfold fL_law_J1077
        rw [if_pos (show lg_cmp (oa (Int32.toNatClampNeg 0)) 1 = 0 from (lg_cmp_eq _ _).mpr e5)]; rfl
    · rw [if_neg hc]; rfl
  case hI => exact ⟨n, rfl, rfl, h⟩
theorem lc_15 {L : Nat} {xs : Nat → Int32} {x5 : Int32} (h1 : inb (x5 + (1 : Int32)) L = true) (h2 : inb (x5 + (2 : Int32)) L = true) (h3 : inb (x5 + (3 : Int32)) L = true) (h4 : inb (x5 + (4 : Int32)) L = true) (Tn : Int32) (Ta : (Nat → Int32)) (Fn : Int32) (Fa : (Nat → Int32)) (Ba : (Nat → Int32)) (Rn : Int32) (Ra : (Nat → Int32)) (Rb : (Nat → Int32)) (Rd : (Nat → Int32)) (Ua : (Nat → Int32)) (Wg : Int32) (Wz : Int32) (Ww : Int32) (Wr : Int32) (Mh : Int32) (Mn : Int32) (Mm : Int32) (Mt : (Nat → Int32)) (Mk : (Nat → Int32)) (Ms : (Nat → Int32)) (Me : (Nat → Int32)) (Mp : (Nat → Int32)) (Mw : (Nat → Int32)) (Ml : (Nat → Int32)) (My : (Nat → Int64)) (Oa : (Nat → Int64)) (Od : (Nat → UInt64)) (hT : TwoR Tn Ta Mn Mt) : GoesOn (fun k28 => fL_law_J1086 100000 L xs k28 Tn Ta Fn Fa Ba Rn Ra Rb Rd Ua Wg Wz Ww Wr Mh Mn Mm Mt Mk Ms Me Mp Mw Ml My Oa Od x5) x5 := by
  obtain ⟨n, rfl, rfl, h⟩ := hT
  obtain ⟨r, fn, fa, e1, e2⟩ := ag_factors (by decide : 100 ≤ 100000) h Fn Fa Mh Mm
  refine ⟨(nI n), Ta, fn, fa, Ba, Rn, Ra, Rb, Rd, Ua, Wg, Wz, Ww, Wr, (0 : Int32), (nI n), Mm, Mt, Mk, Ms, Me, Mp, Mw, Ml, My, Oa, Od, ?hI, fun k => ?hk⟩
  case hk =>
    show fL_law_J1086 100000 L xs k _ _ _ _ _ _ _ _ _ _ _ _ _ _ _ _ _ _ _ _ _ _ _ _ _ _ _ x5 = _
    unfold fL_law_J1086
    rw [e1, bn_s, e2, bn_s]
    dsimp only
    rw [if_pos rfl]; rfl
  case hI => exact ⟨n, rfl, rfl, h⟩
theorem lc_16 {L : Nat} {xs : Nat → Int32} {x5 : Int32} (h1 : inb (x5 + (1 : Int32)) L = true) (h2 : inb (x5 + (2 : Int32)) L = true) (h3 : inb (x5 + (3 : Int32)) L = true) (h4 : inb (x5 + (4 : Int32)) L = true) (Tn : Int32) (Ta : (Nat → Int32)) (Fn : Int32) (Fa : (Nat → Int32)) (Ba : (Nat → Int32)) (Rn : Int32) (Ra : (Nat → Int32)) (Rb : (Nat → Int32)) (Rd : (Nat → Int32)) (Ua : (Nat → Int32)) (Wg : Int32) (Wz : Int32) (Ww : Int32) (Wr : Int32) (Mh : Int32) (Mn : Int32) (Mm : Int32) (Mt : (Nat → Int32)) (Mk : (Nat → Int32)) (Ms : (Nat → Int32)) (Me : (Nat → Int32)) (Mp : (Nat → Int32)) (Mw : (Nat → Int32)) (Ml : (Nat → Int32)) (My : (Nat → Int64)) (Oa : (Nat → Int64)) (Od : (Nat → UInt64)) (hT : TwoR Tn Ta Mn Mt) : GoesOn (fun k28 => fL_law_J1099 100000 L xs k28 Tn Ta Fn Fa Ba Rn Ra Rb Rd Ua Wg Wz Ww Wr Mh Mn Mm Mt Mk Ms Me Mp Mw Ml My Oa Od x5) x5 := by
  obtain ⟨n, rfl, rfl, h⟩ := hT
  obtain ⟨c, fn, fa, oa, r, e1, e2, e4⟩ := ag_factorStart (by decide : 100 ≤ 100000) h Fn Fa Oa Mh Mm (xs ((x5 + (1 : Int32))).toNatClampNeg)
  refine ⟨(nI n), Ta, fn, fa, Ba, Rn, Ra, Rb, Rd, Ua, Wg, Wz, Ww, Wr, c, (nI n), Mm, Mt, Mk, Ms, Me, Mp, Mw, Ml, My, oa, Od, ?hI, fun k => ?hk⟩
  case hk =>
    show fL_law_J1099 100000 L xs k _ _ _ _ _ _ _ _ _ _ _ _ _ _ _ _ _ _ _ _ _ _ _ _ _ _ _ x5 = _
    unfold fL_law_J1099 fX9_thrown
    simp only [h1, gd_t]
    rw [e1, bn_s, e2, bn_s, bn_s]
    dsimp only
    rw [if_pos rfl]
    by_cases hc : c = 0
    · rw [if_pos hc, inb01, gd_t, if_pos (show lg_cmp (oa (Int32.toNatClampNeg 0)) r.toInt64 = 0 from (lg_cmp_eq _ _).mpr (e4 hc))]; rfl
    · rw [if_neg hc]; rfl
  case hI => exact ⟨n, rfl, rfl, h⟩
theorem lc_17 {L : Nat} {xs : Nat → Int32} {x5 : Int32} (h1 : inb (x5 + (1 : Int32)) L = true) (h2 : inb (x5 + (2 : Int32)) L = true) (h3 : inb (x5 + (3 : Int32)) L = true) (h4 : inb (x5 + (4 : Int32)) L = true) (Tn : Int32) (Ta : (Nat → Int32)) (Fn : Int32) (Fa : (Nat → Int32)) (Ba : (Nat → Int32)) (Rn : Int32) (Ra : (Nat → Int32)) (Rb : (Nat → Int32)) (Rd : (Nat → Int32)) (Ua : (Nat → Int32)) (Wg : Int32) (Wz : Int32) (Ww : Int32) (Wr : Int32) (Mh : Int32) (Mn : Int32) (Mm : Int32) (Mt : (Nat → Int32)) (Mk : (Nat → Int32)) (Ms : (Nat → Int32)) (Me : (Nat → Int32)) (Mp : (Nat → Int32)) (Mw : (Nat → Int32)) (Ml : (Nat → Int32)) (My : (Nat → Int64)) (Oa : (Nat → Int64)) (Od : (Nat → UInt64)) (hT : TwoR Tn Ta Mn Mt) : GoesOn (fun k28 => fL_law_J1155 100000 L xs k28 Tn Ta Fn Fa Ba Rn Ra Rb Rd Ua Wg Wz Ww Wr Mh Mn Mm Mt Mk Ms Me Mp Mw Ml My Oa Od x5) x5 := by
  obtain ⟨n, rfl, rfl, h⟩ := hT
  obtain ⟨c, fn, fa, oa, r, e1, e2, e4⟩ := ag_factorLength (by decide : 100 ≤ 100000) h Fn Fa Oa Mh Mm (xs ((x5 + (1 : Int32))).toNatClampNeg)
  refine ⟨(nI n), Ta, fn, fa, Ba, Rn, Ra, Rb, Rd, Ua, Wg, Wz, Ww, Wr, c, (nI n), Mm, Mt, Mk, Ms, Me, Mp, Mw, Ml, My, oa, Od, ?hI, fun k => ?hk⟩
  case hk =>
    show fL_law_J1155 100000 L xs k _ _ _ _ _ _ _ _ _ _ _ _ _ _ _ _ _ _ _ _ _ _ _ _ _ _ _ x5 = _
    unfold fL_law_J1155 fX9_thrown
    simp only [h1, gd_t]
    rw [e1, bn_s, e2, bn_s, bn_s]
    dsimp only
    rw [if_pos rfl]
    by_cases hc : c = 0
    · rw [if_pos hc, inb01, gd_t, if_pos (show lg_cmp (oa (Int32.toNatClampNeg 0)) r.toInt64 = 0 from (lg_cmp_eq _ _).mpr (e4 hc))]; rfl
    · rw [if_neg hc]; rfl
  case hI => exact ⟨n, rfl, rfl, h⟩
theorem lc_18 {L : Nat} {xs : Nat → Int32} {x5 : Int32} (h1 : inb (x5 + (1 : Int32)) L = true) (h2 : inb (x5 + (2 : Int32)) L = true) (h3 : inb (x5 + (3 : Int32)) L = true) (h4 : inb (x5 + (4 : Int32)) L = true) (Tn : Int32) (Ta : (Nat → Int32)) (Fn : Int32) (Fa : (Nat → Int32)) (Ba : (Nat → Int32)) (Rn : Int32) (Ra : (Nat → Int32)) (Rb : (Nat → Int32)) (Rd : (Nat → Int32)) (Ua : (Nat → Int32)) (Wg : Int32) (Wz : Int32) (Ww : Int32) (Wr : Int32) (Mh : Int32) (Mn : Int32) (Mm : Int32) (Mt : (Nat → Int32)) (Mk : (Nat → Int32)) (Ms : (Nat → Int32)) (Me : (Nat → Int32)) (Mp : (Nat → Int32)) (Mw : (Nat → Int32)) (Ml : (Nat → Int32)) (My : (Nat → Int64)) (Oa : (Nat → Int64)) (Od : (Nat → UInt64)) (hT : TwoR Tn Ta Mn Mt) : GoesOn (fun k28 => fL_law_J1211 100000 L xs k28 Tn Ta Fn Fa Ba Rn Ra Rb Rd Ua Wg Wz Ww Wr Mh Mn Mm Mt Mk Ms Me Mp Mw Ml My Oa Od x5) x5 := by
  obtain ⟨n, rfl, rfl, h⟩ := hT
  obtain ⟨c, fn, fa, oa, r, e1, e2, e4⟩ := ag_factorOver (by decide : 100 ≤ 100000) h Fn Fa Oa Mh Mm (xs ((x5 + (1 : Int32))).toNatClampNeg)
  refine ⟨(nI n), Ta, fn, fa, Ba, Rn, Ra, Rb, Rd, Ua, Wg, Wz, Ww, Wr, c, (nI n), Mm, Mt, Mk, Ms, Me, Mp, Mw, Ml, My, oa, Od, ?hI, fun k => ?hk⟩
  case hk =>
    show fL_law_J1211 100000 L xs k _ _ _ _ _ _ _ _ _ _ _ _ _ _ _ _ _ _ _ _ _ _ _ _ _ _ _ x5 = _
    unfold fL_law_J1211 fX9_thrown
    simp only [h1, gd_t]
    rw [e1, bn_s, e2, bn_s, bn_s]
    dsimp only
    rw [if_pos rfl]
    by_cases hc : c = 0
    · rw [if_pos hc, inb01, gd_t, if_pos (show lg_cmp (oa (Int32.toNatClampNeg 0)) r.toInt64 = 0 from (lg_cmp_eq _ _).mpr (e4 hc))]; rfl
    · rw [if_neg hc]; rfl
  case hI => exact ⟨n, rfl, rfl, h⟩
theorem lc_19 {L : Nat} {xs : Nat → Int32} {x5 : Int32} (h1 : inb (x5 + (1 : Int32)) L = true) (h2 : inb (x5 + (2 : Int32)) L = true) (h3 : inb (x5 + (3 : Int32)) L = true) (h4 : inb (x5 + (4 : Int32)) L = true) (Tn : Int32) (Ta : (Nat → Int32)) (Fn : Int32) (Fa : (Nat → Int32)) (Ba : (Nat → Int32)) (Rn : Int32) (Ra : (Nat → Int32)) (Rb : (Nat → Int32)) (Rd : (Nat → Int32)) (Ua : (Nat → Int32)) (Wg : Int32) (Wz : Int32) (Ww : Int32) (Wr : Int32) (Mh : Int32) (Mn : Int32) (Mm : Int32) (Mt : (Nat → Int32)) (Mk : (Nat → Int32)) (Ms : (Nat → Int32)) (Me : (Nat → Int32)) (Mp : (Nat → Int32)) (Mw : (Nat → Int32)) (Ml : (Nat → Int32)) (My : (Nat → Int64)) (Oa : (Nat → Int64)) (Od : (Nat → UInt64)) (hT : TwoR Tn Ta Mn Mt) : GoesOn (fun k28 => fL_law_J1267 100000 L xs k28 Tn Ta Fn Fa Ba Rn Ra Rb Rd Ua Wg Wz Ww Wr Mh Mn Mm Mt Mk Ms Me Mp Mw Ml My Oa Od x5) x5 := by
  obtain ⟨n, rfl, rfl, h⟩ := hT
  have key : ∀ y : Int32, (y = 0 ↔ (xs ((x5 + (2 : Int32))).toNatClampNeg) = 0) → (∀ z, ((xs ((x5 + (2 : Int32))).toNatClampNeg) = 0 → z = (0 : Int32)) → (¬ (xs ((x5 + (2 : Int32))).toNatClampNeg) = 0 → z = (1 : Int32)) → y = z) → GoesOn (fun k28 => fL_law_J1288 100000 L xs k28 (nI n) Ta Fn Fa Ba Rn Ra Rb Rd Ua Wg Wz Ww Wr Mh (nI n) Mm Mt Mk Ms Me Mp Mw Ml My Oa Od x5 (xs ((x5 + (1 : Int32))).toNatClampNeg) y) x5 := by
    intro y hy hz
    obtain ⟨c, oa, r, e1, e2, e4⟩ := ag_longestLyndon (by decide : 100 ≤ 100000) h Oa Mh Mm (xs ((x5 + (1 : Int32))).toNatClampNeg) y
    refine ⟨(nI n), Ta, Fn, Fa, Ba, Rn, Ra, Rb, Rd, Ua, Wg, Wz, Ww, Wr, c, (nI n), Mm, Mt, Mk, Ms, Me, Mp, Mw, Ml, My, oa, Od, ?hI, fun k => ?hk⟩
    case hk =>
      show fL_law_J1288 100000 L xs k _ _ _ _ _ _ _ _ _ _ _ _ _ _ _ _ _ _ _ _ _ _ _ _ _ _ _ x5 _ _ = _
      unfold fL_law_J1288
      simp only [h1, h2, gd_t]
      rw [e1, bn_s]
      dsimp only
      have go : fL_law_J1315 100000 L xs k (nI n) Ta Fn Fa Ba Rn Ra Rb Rd Ua Wg Wz Ww Wr Mh (nI n) Mm Mt Mk Ms Me Mp Mw Ml My oa Od x5 c (xs ((x5 + (1 : Int32))).toNatClampNeg) y = k (nI n) Ta Fn Fa Ba Rn Ra Rb Rd Ua Wg Wz Ww Wr c (nI n) Mm Mt Mk Ms Me Mp Mw Ml My oa Od (x5 + 5) := by
        unfold fL_law_J1315 fX9_thrown
        rw [e2, bn_s, bn_s]
        dsimp only
        rw [if_pos rfl]
        by_cases hc : c = 0
        · rw [if_pos hc, inb01, gd_t, if_pos (show lg_cmp (oa (Int32.toNatClampNeg 0)) r.toInt64 = 0 from (lg_cmp_eq _ _).mpr (e4 hc))]; rfl
        · rw [if_neg hc]; rfl
      by_cases q : (xs ((x5 + (2 : Int32))).toNatClampNeg) = 0
      · rw [if_pos q]
        rw [hz (0 : Int32) (fun _ => rfl) (fun hh => absurd q hh)] at go
        exact go
      · rw [if_neg q]
        rw [hz (1 : Int32) (fun hh => absurd hh q) (fun _ => rfl)] at go
        exact go
    case hI => exact ⟨n, rfl, rfl, h⟩
  by_cases q : (xs ((x5 + (2 : Int32))).toNatClampNeg) = 0
  · obtain ⟨u0, u1, u2, u3, u4, u5, u6, u7, u8, u9, u10, u11, u12, u13, u14, u15, u16, u17, u18, u19, u20, u21, u22, u23, u24, u25, u26, g1, g2⟩ := key (0 : Int32) (⟨fun _ => q, fun _ => rfl⟩) (fun z hz1 hz2 => (hz1 q).symm)
    refine ⟨u0, u1, u2, u3, u4, u5, u6, u7, u8, u9, u10, u11, u12, u13, u14, u15, u16, u17, u18, u19, u20, u21, u22, u23, u24, u25, u26, g1, fun k => ?_⟩
    show fL_law_J1267 100000 L xs k _ _ _ _ _ _ _ _ _ _ _ _ _ _ _ _ _ _ _ _ _ _ _ _ _ _ _ x5 = _
    unfold fL_law_J1267
    simp only [h1, h2, gd_t]
    rw [if_pos q]
    exact g2 k
  · obtain ⟨u0, u1, u2, u3, u4, u5, u6, u7, u8, u9, u10, u11, u12, u13, u14, u15, u16, u17, u18, u19, u20, u21, u22, u23, u24, u25, u26, g1, g2⟩ := key (1 : Int32) (⟨fun hh => absurd hh (by decide), fun hh => absurd hh q⟩) (fun z hz1 hz2 => (hz2 q).symm)
    refine ⟨u0, u1, u2, u3, u4, u5, u6, u7, u8, u9, u10, u11, u12, u13, u14, u15, u16, u17, u18, u19, u20, u21, u22, u23, u24, u25, u26, g1, fun k => ?_⟩
    show fL_law_J1267 100000 L xs k _ _ _ _ _ _ _ _ _ _ _ _ _ _ _ _ _ _ _ _ _ _ _ _ _ _ _ x5 = _
    unfold fL_law_J1267
    simp only [h1, h2, gd_t]
    rw [if_neg q]
    exact g2 k
theorem lc_20 {L : Nat} {xs : Nat → Int32} {x5 : Int32} (h1 : inb (x5 + (1 : Int32)) L = true) (h2 : inb (x5 + (2 : Int32)) L = true) (h3 : inb (x5 + (3 : Int32)) L = true) (h4 : inb (x5 + (4 : Int32)) L = true) (Tn : Int32) (Ta : (Nat → Int32)) (Fn : Int32) (Fa : (Nat → Int32)) (Ba : (Nat → Int32)) (Rn : Int32) (Ra : (Nat → Int32)) (Rb : (Nat → Int32)) (Rd : (Nat → Int32)) (Ua : (Nat → Int32)) (Wg : Int32) (Wz : Int32) (Ww : Int32) (Wr : Int32) (Mh : Int32) (Mn : Int32) (Mm : Int32) (Mt : (Nat → Int32)) (Mk : (Nat → Int32)) (Ms : (Nat → Int32)) (Me : (Nat → Int32)) (Mp : (Nat → Int32)) (Mw : (Nat → Int32)) (Ml : (Nat → Int32)) (My : (Nat → Int64)) (Oa : (Nat → Int64)) (Od : (Nat → UInt64)) (hT : TwoR Tn Ta Mn Mt) : GoesOn (fun k28 => fL_law_J1351 100000 L xs k28 Tn Ta Fn Fa Ba Rn Ra Rb Rd Ua Wg Wz Ww Wr Mh Mn Mm Mt Mk Ms Me Mp Mw Ml My Oa Od x5) x5 := by
  obtain ⟨n, rfl, rfl, h⟩ := hT
  obtain ⟨c, oa, r, e1, e2, e4⟩ := ag_standardFactor (by decide : 100 ≤ 100000) h Oa Mh Mm (xs ((x5 + (1 : Int32))).toNatClampNeg) (xs ((x5 + (2 : Int32))).toNatClampNeg)
  refine ⟨(nI n), Ta, Fn, Fa, Ba, Rn, Ra, Rb, Rd, Ua, Wg, Wz, Ww, Wr, c, (nI n), Mm, Mt, Mk, Ms, Me, Mp, Mw, Ml, My, oa, Od, ?hI, fun k => ?hk⟩
  case hk =>
    show fL_law_J1351 100000 L xs k _ _ _ _ _ _ _ _ _ _ _ _ _ _ _ _ _ _ _ _ _ _ _ _ _ _ _ x5 = _
    unfold fL_law_J1351 fX9_thrown
    simp only [h1, h2, gd_t]
    rw [e1, bn_s, e2, bn_s, bn_s]
    dsimp only
    rw [if_pos rfl]
    by_cases hc : c = 0
    · rw [if_pos hc, inb01, gd_t, if_pos (show lg_cmp (oa (Int32.toNatClampNeg 0)) r.toInt64 = 0 from (lg_cmp_eq _ _).mpr (e4 hc))]; rfl
    · rw [if_neg hc]; rfl
  case hI => exact ⟨n, rfl, rfl, h⟩
theorem lc_21 {L : Nat} {xs : Nat → Int32} {x5 : Int32} (h1 : inb (x5 + (1 : Int32)) L = true) (h2 : inb (x5 + (2 : Int32)) L = true) (h3 : inb (x5 + (3 : Int32)) L = true) (h4 : inb (x5 + (4 : Int32)) L = true) (Tn : Int32) (Ta : (Nat → Int32)) (Fn : Int32) (Fa : (Nat → Int32)) (Ba : (Nat → Int32)) (Rn : Int32) (Ra : (Nat → Int32)) (Rb : (Nat → Int32)) (Rd : (Nat → Int32)) (Ua : (Nat → Int32)) (Wg : Int32) (Wz : Int32) (Ww : Int32) (Wr : Int32) (Mh : Int32) (Mn : Int32) (Mm : Int32) (Mt : (Nat → Int32)) (Mk : (Nat → Int32)) (Ms : (Nat → Int32)) (Me : (Nat → Int32)) (Mp : (Nat → Int32)) (Mw : (Nat → Int32)) (Ml : (Nat → Int32)) (My : (Nat → Int64)) (Oa : (Nat → Int64)) (Od : (Nat → UInt64)) (hT : TwoR Tn Ta Mn Mt) : GoesOn (fun k28 => fL_law_J1419 100000 L xs k28 Tn Ta Fn Fa Ba Rn Ra Rb Rd Ua Wg Wz Ww Wr Mh Mn Mm Mt Mk Ms Me Mp Mw Ml My Oa Od x5) x5 := by
  obtain ⟨n, rfl, rfl, h⟩ := hT
  obtain ⟨c, oa, r, e1, e2, e4⟩ := ag_leastRotation (by decide : 100 ≤ 100000) h Oa Mh Mm (xs ((x5 + (1 : Int32))).toNatClampNeg) (xs ((x5 + (2 : Int32))).toNatClampNeg)
  refine ⟨(nI n), Ta, Fn, Fa, Ba, Rn, Ra, Rb, Rd, Ua, Wg, Wz, Ww, Wr, c, (nI n), Mm, Mt, Mk, Ms, Me, Mp, Mw, Ml, My, oa, Od, ?hI, fun k => ?hk⟩
  case hk =>
    show fL_law_J1419 100000 L xs k _ _ _ _ _ _ _ _ _ _ _ _ _ _ _ _ _ _ _ _ _ _ _ _ _ _ _ x5 = _
    unfold fL_law_J1419 fX9_thrown
    simp only [h1, h2, gd_t]
    rw [e1, bn_s, e2, bn_s, bn_s]
    dsimp only
    rw [if_pos rfl]
    by_cases hc : c = 0
    · rw [if_pos hc, inb01, gd_t, if_pos (show lg_cmp (oa (Int32.toNatClampNeg 0)) r.toInt64 = 0 from (lg_cmp_eq _ _).mpr (e4 hc))]; rfl
    · rw [if_neg hc]; rfl
  case hI => exact ⟨n, rfl, rfl, h⟩
theorem lc_22 {L : Nat} {xs : Nat → Int32} {x5 : Int32} (h1 : inb (x5 + (1 : Int32)) L = true) (h2 : inb (x5 + (2 : Int32)) L = true) (h3 : inb (x5 + (3 : Int32)) L = true) (h4 : inb (x5 + (4 : Int32)) L = true) (Tn : Int32) (Ta : (Nat → Int32)) (Fn : Int32) (Fa : (Nat → Int32)) (Ba : (Nat → Int32)) (Rn : Int32) (Ra : (Nat → Int32)) (Rb : (Nat → Int32)) (Rd : (Nat → Int32)) (Ua : (Nat → Int32)) (Wg : Int32) (Wz : Int32) (Ww : Int32) (Wr : Int32) (Mh : Int32) (Mn : Int32) (Mm : Int32) (Mt : (Nat → Int32)) (Mk : (Nat → Int32)) (Ms : (Nat → Int32)) (Me : (Nat → Int32)) (Mp : (Nat → Int32)) (Mw : (Nat → Int32)) (Ml : (Nat → Int32)) (My : (Nat → Int64)) (Oa : (Nat → Int64)) (Od : (Nat → UInt64)) (hT : TwoR Tn Ta Mn Mt) : GoesOn (fun k28 => fL_law_J1487 100000 L xs k28 Tn Ta Fn Fa Ba Rn Ra Rb Rd Ua Wg Wz Ww Wr Mh Mn Mm Mt Mk Ms Me Mp Mw Ml My Oa Od x5) x5 := by
  obtain ⟨n, rfl, rfl, h⟩ := hT
  obtain ⟨c, oa, r, e1, e2, e4⟩ := ag_greatestRotation (by decide : 100 ≤ 100000) h Oa Mh Mm (xs ((x5 + (1 : Int32))).toNatClampNeg) (xs ((x5 + (2 : Int32))).toNatClampNeg)
  refine ⟨(nI n), Ta, Fn, Fa, Ba, Rn, Ra, Rb, Rd, Ua, Wg, Wz, Ww, Wr, c, (nI n), Mm, Mt, Mk, Ms, Me, Mp, Mw, Ml, My, oa, Od, ?hI, fun k => ?hk⟩
  case hk =>
    show fL_law_J1487 100000 L xs k _ _ _ _ _ _ _ _ _ _ _ _ _ _ _ _ _ _ _ _ _ _ _ _ _ _ _ x5 = _
    unfold fL_law_J1487 fX9_thrown
    simp only [h1, h2, gd_t]
    rw [e1, bn_s, e2, bn_s, bn_s]
    dsimp only
    rw [if_pos rfl]
    by_cases hc : c = 0
    · rw [if_pos hc, inb01, gd_t, if_pos (show lg_cmp (oa (Int32.toNatClampNeg 0)) r.toInt64 = 0 from (lg_cmp_eq _ _).mpr (e4 hc))]; rfl
    · rw [if_neg hc]; rfl
  case hI => exact ⟨n, rfl, rfl, h⟩
theorem lc_23 {L : Nat} {xs : Nat → Int32} {x5 : Int32} (h1 : inb (x5 + (1 : Int32)) L = true) (h2 : inb (x5 + (2 : Int32)) L = true) (h3 : inb (x5 + (3 : Int32)) L = true) (h4 : inb (x5 + (4 : Int32)) L = true) (Tn : Int32) (Ta : (Nat → Int32)) (Fn : Int32) (Fa : (Nat → Int32)) (Ba : (Nat → Int32)) (Rn : Int32) (Ra : (Nat → Int32)) (Rb : (Nat → Int32)) (Rd : (Nat → Int32)) (Ua : (Nat → Int32)) (Wg : Int32) (Wz : Int32) (Ww : Int32) (Wr : Int32) (Mh : Int32) (Mn : Int32) (Mm : Int32) (Mt : (Nat → Int32)) (Mk : (Nat → Int32)) (Ms : (Nat → Int32)) (Me : (Nat → Int32)) (Mp : (Nat → Int32)) (Mw : (Nat → Int32)) (Ml : (Nat → Int32)) (My : (Nat → Int64)) (Oa : (Nat → Int64)) (Od : (Nat → UInt64)) (hT : TwoR Tn Ta Mn Mt) : GoesOn (fun k28 => fL_law_J1555 100000 L xs k28 Tn Ta Fn Fa Ba Rn Ra Rb Rd Ua Wg Wz Ww Wr Mh Mn Mm Mt Mk Ms Me Mp Mw Ml My Oa Od x5) x5 := by
  obtain ⟨n, rfl, rfl, h⟩ := hT
  obtain ⟨c, ba, oa, r, e1, e2, e4⟩ := ag_rotations (by decide : 100 ≤ 100000) h Ba Oa Mh Mm (xs ((x5 + (1 : Int32))).toNatClampNeg) (xs ((x5 + (2 : Int32))).toNatClampNeg)
  refine ⟨(nI n), Ta, Fn, Fa, ba, Rn, Ra, Rb, Rd, Ua, Wg, Wz, Ww, Wr, c, (nI n), Mm, Mt, Mk, Ms, Me, Mp, Mw, Ml, My, oa, Od, ?hI, fun k => ?hk⟩
  case hk =>
    show fL_law_J1555 100000 L xs k _ _ _ _ _ _ _ _ _ _ _ _ _ _ _ _ _ _ _ _ _ _ _ _ _ _ _ x5 = _
    unfold fL_law_J1555 fX9_thrown
    simp only [h1, h2, gd_t]
    rw [e1, bn_s, e2, bn_s, bn_s]
    dsimp only
    rw [if_pos rfl]
    by_cases hc : c = 0
    · rw [if_pos hc, inb01, gd_t, if_pos (show lg_cmp (oa (Int32.toNatClampNeg 0)) r.toInt64 = 0 from (lg_cmp_eq _ _).mpr (e4 hc))]; rfl
    · rw [if_neg hc]; rfl
  case hI => exact ⟨n, rfl, rfl, h⟩
theorem lc_24 {L : Nat} {xs : Nat → Int32} {x5 : Int32} (h1 : inb (x5 + (1 : Int32)) L = true) (h2 : inb (x5 + (2 : Int32)) L = true) (h3 : inb (x5 + (3 : Int32)) L = true) (h4 : inb (x5 + (4 : Int32)) L = true) (Tn : Int32) (Ta : (Nat → Int32)) (Fn : Int32) (Fa : (Nat → Int32)) (Ba : (Nat → Int32)) (Rn : Int32) (Ra : (Nat → Int32)) (Rb : (Nat → Int32)) (Rd : (Nat → Int32)) (Ua : (Nat → Int32)) (Wg : Int32) (Wz : Int32) (Ww : Int32) (Wr : Int32) (Mh : Int32) (Mn : Int32) (Mm : Int32) (Mt : (Nat → Int32)) (Mk : (Nat → Int32)) (Ms : (Nat → Int32)) (Me : (Nat → Int32)) (Mp : (Nat → Int32)) (Mw : (Nat → Int32)) (Ml : (Nat → Int32)) (My : (Nat → Int64)) (Oa : (Nat → Int64)) (Od : (Nat → UInt64)) (hT : TwoR Tn Ta Mn Mt) : GoesOn (fun k28 => fL_law_J1623 100000 L xs k28 Tn Ta Fn Fa Ba Rn Ra Rb Rd Ua Wg Wz Ww Wr Mh Mn Mm Mt Mk Ms Me Mp Mw Ml My Oa Od x5) x5 := by
  obtain ⟨n, rfl, rfl, h⟩ := hT
  obtain ⟨c, oa, r, e1, e2, e4⟩ := ag_isNecklace (by decide : 100 ≤ 100000) h Oa Mh Mm (xs ((x5 + (1 : Int32))).toNatClampNeg) (xs ((x5 + (2 : Int32))).toNatClampNeg)
  refine ⟨(nI n), Ta, Fn, Fa, Ba, Rn, Ra, Rb, Rd, Ua, Wg, Wz, Ww, Wr, c, (nI n), Mm, Mt, Mk, Ms, Me, Mp, Mw, Ml, My, oa, Od, ?hI, fun k => ?hk⟩
  case hk =>
    show fL_law_J1623 100000 L xs k _ _ _ _ _ _ _ _ _ _ _ _ _ _ _ _ _ _ _ _ _ _ _ _ _ _ _ x5 = _
    unfold fL_law_J1623 fX9_thrown
    simp only [h1, h2, gd_t]
    rw [e1, bn_s, e2, bn_s, bn_s]
    dsimp only
    rw [if_pos rfl]
    by_cases hc : c = 0
    · rw [if_pos hc, inb01, gd_t]
      have e5 := e4 hc
      by_cases hr : r = 0
      · rw [if_pos hr] at e5 ⊢
        unfold fL_law_J1689
        rw [if_pos (show lg_cmp (oa (Int32.toNatClampNeg 0)) 0 = 0 from (lg_cmp_eq _ _).mpr e5)]; rfl
      · rw [if_neg hr] at e5 ⊢
        unfold fL_law_J1689
        rw [if_pos (show lg_cmp (oa (Int32.toNatClampNeg 0)) 1 = 0 from (lg_cmp_eq _ _).mpr e5)]; rfl
    · rw [if_neg hc]; rfl
  case hI => exact ⟨n, rfl, rfl, h⟩
theorem lc_25 {L : Nat} {xs : Nat → Int32} {x5 : Int32} (h1 : inb (x5 + (1 : Int32)) L = true) (h2 : inb (x5 + (2 : Int32)) L = true) (h3 : inb (x5 + (3 : Int32)) L = true) (h4 : inb (x5 + (4 : Int32)) L = true) (Tn : Int32) (Ta : (Nat → Int32)) (Fn : Int32) (Fa : (Nat → Int32)) (Ba : (Nat → Int32)) (Rn : Int32) (Ra : (Nat → Int32)) (Rb : (Nat → Int32)) (Rd : (Nat → Int32)) (Ua : (Nat → Int32)) (Wg : Int32) (Wz : Int32) (Ww : Int32) (Wr : Int32) (Mh : Int32) (Mn : Int32) (Mm : Int32) (Mt : (Nat → Int32)) (Mk : (Nat → Int32)) (Ms : (Nat → Int32)) (Me : (Nat → Int32)) (Mp : (Nat → Int32)) (Mw : (Nat → Int32)) (Ml : (Nat → Int32)) (My : (Nat → Int64)) (Oa : (Nat → Int64)) (Od : (Nat → UInt64)) (hT : TwoR Tn Ta Mn Mt) : GoesOn (fun k28 => fL_law_J1698 100000 L xs k28 Tn Ta Fn Fa Ba Rn Ra Rb Rd Ua Wg Wz Ww Wr Mh Mn Mm Mt Mk Ms Me Mp Mw Ml My Oa Od x5) x5 := by
  obtain ⟨n, rfl, rfl, h⟩ := hT
  obtain ⟨c, ba, oa, r, e1, e2, e4⟩ := ag_period (by decide : 100 ≤ 100000) h Ba Oa Mh Mm (xs ((x5 + (1 : Int32))).toNatClampNeg) (xs ((x5 + (2 : Int32))).toNatClampNeg)
  refine ⟨(nI n), Ta, Fn, Fa, ba, Rn, Ra, Rb, Rd, Ua, Wg, Wz, Ww, Wr, c, (nI n), Mm, Mt, Mk, Ms, Me, Mp, Mw, Ml, My, oa, Od, ?hI, fun k => ?hk⟩
  case hk =>
    show fL_law_J1698 100000 L xs k _ _ _ _ _ _ _ _ _ _ _ _ _ _ _ _ _ _ _ _ _ _ _ _ _ _ _ x5 = _
    unfold fL_law_J1698 fX9_thrown
    simp only [h1, h2, gd_t]
    rw [e1, bn_s, e2, bn_s, bn_s]
    dsimp only
    rw [if_pos rfl]
    by_cases hc : c = 0
    · rw [if_pos hc, inb01, gd_t, if_pos (show lg_cmp (oa (Int32.toNatClampNeg 0)) r.toInt64 = 0 from (lg_cmp_eq _ _).mpr (e4 hc))]; rfl
    · rw [if_neg hc]; rfl
  case hI => exact ⟨n, rfl, rfl, h⟩
theorem lc_26 {L : Nat} {xs : Nat → Int32} {x5 : Int32} (h1 : inb (x5 + (1 : Int32)) L = true) (h2 : inb (x5 + (2 : Int32)) L = true) (h3 : inb (x5 + (3 : Int32)) L = true) (h4 : inb (x5 + (4 : Int32)) L = true) (Tn : Int32) (Ta : (Nat → Int32)) (Fn : Int32) (Fa : (Nat → Int32)) (Ba : (Nat → Int32)) (Rn : Int32) (Ra : (Nat → Int32)) (Rb : (Nat → Int32)) (Rd : (Nat → Int32)) (Ua : (Nat → Int32)) (Wg : Int32) (Wz : Int32) (Ww : Int32) (Wr : Int32) (Mh : Int32) (Mn : Int32) (Mm : Int32) (Mt : (Nat → Int32)) (Mk : (Nat → Int32)) (Ms : (Nat → Int32)) (Me : (Nat → Int32)) (Mp : (Nat → Int32)) (Mw : (Nat → Int32)) (Ml : (Nat → Int32)) (My : (Nat → Int64)) (Oa : (Nat → Int64)) (Od : (Nat → UInt64)) (hT : TwoR Tn Ta Mn Mt) : GoesOn (fun k28 => fL_law_J1766 100000 L xs k28 Tn Ta Fn Fa Ba Rn Ra Rb Rd Ua Wg Wz Ww Wr Mh Mn Mm Mt Mk Ms Me Mp Mw Ml My Oa Od x5) x5 := by
  obtain ⟨n, rfl, rfl, h⟩ := hT
  obtain ⟨c, oa, r, e1, e2, e4⟩ := ag_periodByTrying (by decide : 100 ≤ 100000) h Oa Mh Mm (xs ((x5 + (1 : Int32))).toNatClampNeg) (xs ((x5 + (2 : Int32))).toNatClampNeg)
  refine ⟨(nI n), Ta, Fn, Fa, Ba, Rn, Ra, Rb, Rd, Ua, Wg, Wz, Ww, Wr, c, (nI n), Mm, Mt, Mk, Ms, Me, Mp, Mw, Ml, My, oa, Od, ?hI, fun k => ?hk⟩
  case hk =>
    show fL_law_J1766 100000 L xs k _ _ _ _ _ _ _ _ _ _ _ _ _ _ _ _ _ _ _ _ _ _ _ _ _ _ _ x5 = _
    unfold fL_law_J1766 fX9_thrown
    simp only [h1, h2, gd_t]
    rw [e1, bn_s, e2, bn_s, bn_s]
    dsimp only
    rw [if_pos rfl]
    by_cases hc : c = 0
    · rw [if_pos hc, inb01, gd_t, if_pos (show lg_cmp (oa (Int32.toNatClampNeg 0)) r.toInt64 = 0 from (lg_cmp_eq _ _).mpr (e4 hc))]; rfl
    · rw [if_neg hc]; rfl
  case hI => exact ⟨n, rfl, rfl, h⟩
theorem lc_27 {L : Nat} {xs : Nat → Int32} {x5 : Int32} (h1 : inb (x5 + (1 : Int32)) L = true) (h2 : inb (x5 + (2 : Int32)) L = true) (h3 : inb (x5 + (3 : Int32)) L = true) (h4 : inb (x5 + (4 : Int32)) L = true) (Tn : Int32) (Ta : (Nat → Int32)) (Fn : Int32) (Fa : (Nat → Int32)) (Ba : (Nat → Int32)) (Rn : Int32) (Ra : (Nat → Int32)) (Rb : (Nat → Int32)) (Rd : (Nat → Int32)) (Ua : (Nat → Int32)) (Wg : Int32) (Wz : Int32) (Ww : Int32) (Wr : Int32) (Mh : Int32) (Mn : Int32) (Mm : Int32) (Mt : (Nat → Int32)) (Mk : (Nat → Int32)) (Ms : (Nat → Int32)) (Me : (Nat → Int32)) (Mp : (Nat → Int32)) (Mw : (Nat → Int32)) (Ml : (Nat → Int32)) (My : (Nat → Int64)) (Oa : (Nat → Int64)) (Od : (Nat → UInt64)) (hT : TwoR Tn Ta Mn Mt) : GoesOn (fun k28 => fL_law_J1834 100000 L xs k28 Tn Ta Fn Fa Ba Rn Ra Rb Rd Ua Wg Wz Ww Wr Mh Mn Mm Mt Mk Ms Me Mp Mw Ml My Oa Od x5) x5 := by
  obtain ⟨n, rfl, rfl, h⟩ := hT
  obtain ⟨c, oa, r, e1, e2, e4⟩ := ag_isPeriod (by decide : 100 ≤ 100000) h Oa Mh Mm (xs ((x5 + (1 : Int32))).toNatClampNeg) (xs ((x5 + (2 : Int32))).toNatClampNeg) (xs ((x5 + (3 : Int32))).toNatClampNeg)
  refine ⟨(nI n), Ta, Fn, Fa, Ba, Rn, Ra, Rb, Rd, Ua, Wg, Wz, Ww, Wr, c, (nI n), Mm, Mt, Mk, Ms, Me, Mp, Mw, Ml, My, oa, Od, ?hI, fun k => ?hk⟩
  case hk =>
    show fL_law_J1834 100000 L xs k _ _ _ _ _ _ _ _ _ _ _ _ _ _ _ _ _ _ _ _ _ _ _ _ _ _ _ x5 = _
    unfold fL_law_J1834 fX9_thrown
    simp only [h1, h2, h3, gd_t]
    rw [e1, bn_s, e2, bn_s, bn_s]
    dsimp only
    rw [if_pos rfl]
    by_cases hc : c = 0
    · rw [if_pos hc, inb01, gd_t]
      have e5 := e4 hc
      by_cases hr : r = 0
      · rw [if_pos hr] at e5 ⊢
        unfold fL_law_J1912
        rw [if_pos (show lg_cmp (oa (Int32.toNatClampNeg 0)) 0 = 0 from (lg_cmp_eq _ _).mpr e5)]; rfl
      · rw [if_neg hr] at e5 ⊢
        unfold fL_law_J1912
        rw [if_pos (show lg_cmp (oa (Int32.toNatClampNeg 0)) 1 = 0 from (lg_cmp_eq _ _).mpr e5)]; rfl
    · rw [if_neg hc]; rfl
  case hI => exact ⟨n, rfl, rfl, h⟩
theorem lc_28 {L : Nat} {xs : Nat → Int32} {x5 : Int32} (h1 : inb (x5 + (1 : Int32)) L = true) (h2 : inb (x5 + (2 : Int32)) L = true) (h3 : inb (x5 + (3 : Int32)) L = true) (h4 : inb (x5 + (4 : Int32)) L = true) (Tn : Int32) (Ta : (Nat → Int32)) (Fn : Int32) (Fa : (Nat → Int32)) (Ba : (Nat → Int32)) (Rn : Int32) (Ra : (Nat → Int32)) (Rb : (Nat → Int32)) (Rd : (Nat → Int32)) (Ua : (Nat → Int32)) (Wg : Int32) (Wz : Int32) (Ww : Int32) (Wr : Int32) (Mh : Int32) (Mn : Int32) (Mm : Int32) (Mt : (Nat → Int32)) (Mk : (Nat → Int32)) (Ms : (Nat → Int32)) (Me : (Nat → Int32)) (Mp : (Nat → Int32)) (Mw : (Nat → Int32)) (Ml : (Nat → Int32)) (My : (Nat → Int64)) (Oa : (Nat → Int64)) (Od : (Nat → UInt64)) (hT : TwoR Tn Ta Mn Mt) : GoesOn (fun k28 => fL_law_J1921 100000 L xs k28 Tn Ta Fn Fa Ba Rn Ra Rb Rd Ua Wg Wz Ww Wr Mh Mn Mm Mt Mk Ms Me Mp Mw Ml My Oa Od x5) x5 := by
  obtain ⟨n, rfl, rfl, h⟩ := hT
  obtain ⟨c, ba, oa, r, e1, e2, e4⟩ := ag_periods (by decide : 100 ≤ 100000) h Ba Oa Mh Mm (xs ((x5 + (1 : Int32))).toNatClampNeg) (xs ((x5 + (2 : Int32))).toNatClampNeg)
  refine ⟨(nI n), Ta, Fn, Fa, ba, Rn, Ra, Rb, Rd, Ua, Wg, Wz, Ww, Wr, c, (nI n), Mm, Mt, Mk, Ms, Me, Mp, Mw, Ml, My, oa, Od, ?hI, fun k => ?hk⟩
  case hk =>
    show fL_law_J1921 100000 L xs k _ _ _ _ _ _ _ _ _ _ _ _ _ _ _ _ _ _ _ _ _ _ _ _ _ _ _ x5 = _
    unfold fL_law_J1921 fX9_thrown
    simp only [h1, h2, gd_t]
    rw [e1, bn_s, e2, bn_s, bn_s]
    dsimp only
    rw [if_pos rfl]
    by_cases hc : c = 0
    · rw [if_pos hc, inb01, gd_t, if_pos (show lg_cmp (oa (Int32.toNatClampNeg 0)) r.toInt64 = 0 from (lg_cmp_eq _ _).mpr (e4 hc))]; rfl
    · rw [if_neg hc]; rfl
  case hI => exact ⟨n, rfl, rfl, h⟩
theorem lc_29 {L : Nat} {xs : Nat → Int32} {x5 : Int32} (h1 : inb (x5 + (1 : Int32)) L = true) (h2 : inb (x5 + (2 : Int32)) L = true) (h3 : inb (x5 + (3 : Int32)) L = true) (h4 : inb (x5 + (4 : Int32)) L = true) (Tn : Int32) (Ta : (Nat → Int32)) (Fn : Int32) (Fa : (Nat → Int32)) (Ba : (Nat → Int32)) (Rn : Int32) (Ra : (Nat → Int32)) (Rb : (Nat → Int32)) (Rd : (Nat → Int32)) (Ua : (Nat → Int32)) (Wg : Int32) (Wz : Int32) (Ww : Int32) (Wr : Int32) (Mh : Int32) (Mn : Int32) (Mm : Int32) (Mt : (Nat → Int32)) (Mk : (Nat → Int32)) (Ms : (Nat → Int32)) (Me : (Nat → Int32)) (Mp : (Nat → Int32)) (Mw : (Nat → Int32)) (Ml : (Nat → Int32)) (My : (Nat → Int64)) (Oa : (Nat → Int64)) (Od : (Nat → UInt64)) (hT : TwoR Tn Ta Mn Mt) : GoesOn (fun k28 => fL_law_J1989 100000 L xs k28 Tn Ta Fn Fa Ba Rn Ra Rb Rd Ua Wg Wz Ww Wr Mh Mn Mm Mt Mk Ms Me Mp Mw Ml My Oa Od x5) x5 := by
  obtain ⟨n, rfl, rfl, h⟩ := hT
  obtain ⟨c, ba, oa, r, e1, e2, e4⟩ := ag_border (by decide : 100 ≤ 100000) h Ba Oa Mh Mm (xs ((x5 + (1 : Int32))).toNatClampNeg) (xs ((x5 + (2 : Int32))).toNatClampNeg)
  refine ⟨(nI n), Ta, Fn, Fa, ba, Rn, Ra, Rb, Rd, Ua, Wg, Wz, Ww, Wr, c, (nI n), Mm, Mt, Mk, Ms, Me, Mp, Mw, Ml, My, oa, Od, ?hI, fun k => ?hk⟩
  case hk =>
    show fL_law_J1989 100000 L xs k _ _ _ _ _ _ _ _ _ _ _ _ _ _ _ _ _ _ _ _ _ _ _ _ _ _ _ x5 = _
    unfold fL_law_J1989 fX9_thrown
    simp only [h1, h2, gd_t]
    rw [e1, bn_s, e2, bn_s, bn_s]
    dsimp only
    rw [if_pos rfl]
    by_cases hc : c = 0
    · rw [if_pos hc, inb01, gd_t, if_pos (show lg_cmp (oa (Int32.toNatClampNeg 0)) r.toInt64 = 0 from (lg_cmp_eq _ _).mpr (e4 hc))]; rfl
    · rw [if_neg hc]; rfl
  case hI => exact ⟨n, rfl, rfl, h⟩
theorem lc_30 {L : Nat} {xs : Nat → Int32} {x5 : Int32} (h1 : inb (x5 + (1 : Int32)) L = true) (h2 : inb (x5 + (2 : Int32)) L = true) (h3 : inb (x5 + (3 : Int32)) L = true) (h4 : inb (x5 + (4 : Int32)) L = true) (Tn : Int32) (Ta : (Nat → Int32)) (Fn : Int32) (Fa : (Nat → Int32)) (Ba : (Nat → Int32)) (Rn : Int32) (Ra : (Nat → Int32)) (Rb : (Nat → Int32)) (Rd : (Nat → Int32)) (Ua : (Nat → Int32)) (Wg : Int32) (Wz : Int32) (Ww : Int32) (Wr : Int32) (Mh : Int32) (Mn : Int32) (Mm : Int32) (Mt : (Nat → Int32)) (Mk : (Nat → Int32)) (Ms : (Nat → Int32)) (Me : (Nat → Int32)) (Mp : (Nat → Int32)) (Mw : (Nat → Int32)) (Ml : (Nat → Int32)) (My : (Nat → Int64)) (Oa : (Nat → Int64)) (Od : (Nat → UInt64)) (hT : TwoR Tn Ta Mn Mt) : GoesOn (fun k28 => fL_law_J2057 100000 L xs k28 Tn Ta Fn Fa Ba Rn Ra Rb Rd Ua Wg Wz Ww Wr Mh Mn Mm Mt Mk Ms Me Mp Mw Ml My Oa Od x5) x5 := by
  obtain ⟨n, rfl, rfl, h⟩ := hT
  obtain ⟨c, ba, oa, r, e1, e2, e4⟩ := ag_rootLength (by decide : 100 ≤ 100000) h Ba Oa Mh Mm (xs ((x5 + (1 : Int32))).toNatClampNeg) (xs ((x5 + (2 : Int32))).toNatClampNeg)
  refine ⟨(nI n), Ta, Fn, Fa, ba, Rn, Ra, Rb, Rd, Ua, Wg, Wz, Ww, Wr, c, (nI n), Mm, Mt, Mk, Ms, Me, Mp, Mw, Ml, My, oa, Od, ?hI, fun k => ?hk⟩
  case hk =>
    show fL_law_J2057 100000 L xs k _ _ _ _ _ _ _ _ _ _ _ _ _ _ _ _ _ _ _ _ _ _ _ _ _ _ _ x5 = _
    unfold fL_law_J2057 fX9_thrown
    simp only [h1, h2, gd_t]
    rw [e1, bn_s, e2, bn_s, bn_s]
    dsimp only
    rw [if_pos rfl]
    by_cases hc : c = 0
    · rw [if_pos hc, inb01, gd_t, if_pos (show lg_cmp (oa (Int32.toNatClampNeg 0)) r.toInt64 = 0 from (lg_cmp_eq _ _).mpr (e4 hc))]; rfl
    · rw [if_neg hc]; rfl
  case hI => exact ⟨n, rfl, rfl, h⟩
theorem lc_31 {L : Nat} {xs : Nat → Int32} {x5 : Int32} (h1 : inb (x5 + (1 : Int32)) L = true) (h2 : inb (x5 + (2 : Int32)) L = true) (h3 : inb (x5 + (3 : Int32)) L = true) (h4 : inb (x5 + (4 : Int32)) L = true) (Tn : Int32) (Ta : (Nat → Int32)) (Fn : Int32) (Fa : (Nat → Int32)) (Ba : (Nat → Int32)) (Rn : Int32) (Ra : (Nat → Int32)) (Rb : (Nat → Int32)) (Rd : (Nat → Int32)) (Ua : (Nat → Int32)) (Wg : Int32) (Wz : Int32) (Ww : Int32) (Wr : Int32) (Mh : Int32) (Mn : Int32) (Mm : Int32) (Mt : (Nat → Int32)) (Mk : (Nat → Int32)) (Ms : (Nat → Int32)) (Me : (Nat → Int32)) (Mp : (Nat → Int32)) (Mw : (Nat → Int32)) (Ml : (Nat → Int32)) (My : (Nat → Int64)) (Oa : (Nat → Int64)) (Od : (Nat → UInt64)) (hT : TwoR Tn Ta Mn Mt) : GoesOn (fun k28 => fL_law_J2125 100000 L xs k28 Tn Ta Fn Fa Ba Rn Ra Rb Rd Ua Wg Wz Ww Wr Mh Mn Mm Mt Mk Ms Me Mp Mw Ml My Oa Od x5) x5 := by
  obtain ⟨n, rfl, rfl, h⟩ := hT
  obtain ⟨c, ba, od, r, e1, e2, e4⟩ := ag_exponent (by decide : 100 ≤ 100000) h Ba Od Mh Mm (xs ((x5 + (1 : Int32))).toNatClampNeg) (xs ((x5 + (2 : Int32))).toNatClampNeg)
  refine ⟨(nI n), Ta, Fn, Fa, ba, Rn, Ra, Rb, Rd, Ua, Wg, Wz, Ww, Wr, c, (nI n), Mm, Mt, Mk, Ms, Me, Mp, Mw, Ml, My, Oa, od, ?hI, fun k => ?hk⟩
  case hk =>
    show fL_law_J2125 100000 L xs k _ _ _ _ _ _ _ _ _ _ _ _ _ _ _ _ _ _ _ _ _ _ _ _ _ _ _ x5 = _
    unfold fL_law_J2125 fX9_thrown
    simp only [h1, h2, gd_t]
    rw [e1, bn_s, e2, bn_s, bn_s]
    dsimp only
    rw [if_pos rfl]
    by_cases hc : c = 0
    · rw [if_pos hc, inb01, gd_t]
      have e5 : od (Int32.toNatClampNeg 0) = r := e4 hc
      subst e5
      rw [gd_t, gd_t]
      by_cases q : Op.cmpValue (FP.dcmp (od (Int32.toNatClampNeg 0)) (od (Int32.toNatClampNeg 0))) CmpOp.l = 0
      · rw [if_pos q]; rfl
      · rw [if_neg q, if_neg q, if_neg q]; rfl
    · rw [if_neg hc]; rfl
  case hI => exact ⟨n, rfl, rfl, h⟩
theorem lc_32 {L : Nat} {xs : Nat → Int32} {x5 : Int32} (h1 : inb (x5 + (1 : Int32)) L = true) (h2 : inb (x5 + (2 : Int32)) L = true) (h3 : inb (x5 + (3 : Int32)) L = true) (h4 : inb (x5 + (4 : Int32)) L = true) (Tn : Int32) (Ta : (Nat → Int32)) (Fn : Int32) (Fa : (Nat → Int32)) (Ba : (Nat → Int32)) (Rn : Int32) (Ra : (Nat → Int32)) (Rb : (Nat → Int32)) (Rd : (Nat → Int32)) (Ua : (Nat → Int32)) (Wg : Int32) (Wz : Int32) (Ww : Int32) (Wr : Int32) (Mh : Int32) (Mn : Int32) (Mm : Int32) (Mt : (Nat → Int32)) (Mk : (Nat → Int32)) (Ms : (Nat → Int32)) (Me : (Nat → Int32)) (Mp : (Nat → Int32)) (Mw : (Nat → Int32)) (Ml : (Nat → Int32)) (My : (Nat → Int64)) (Oa : (Nat → Int64)) (Od : (Nat → UInt64)) (hT : TwoR Tn Ta Mn Mt) : GoesOn (fun k28 => fL_law_J2214 100000 L xs k28 Tn Ta Fn Fa Ba Rn Ra Rb Rd Ua Wg Wz Ww Wr Mh Mn Mm Mt Mk Ms Me Mp Mw Ml My Oa Od x5) x5 := by
  obtain ⟨n, rfl, rfl, h⟩ := hT
  obtain ⟨r, rn, ra, rb, rd, mm, ms, me, mp, e1, e2⟩ := ag_runs (by decide : 100 ≤ 100000) h Rn Ra Rb Rd Mh Mm Ms Me Mp
  refine ⟨(nI n), Ta, Fn, Fa, Ba, rn, ra, rb, rd, Ua, Wg, Wz, Ww, Wr, (0 : Int32), (nI n), mm, Mt, Mk, ms, me, mp, Mw, Ml, My, Oa, Od, ?hI, fun k => ?hk⟩
  case hk =>
    show fL_law_J2214 100000 L xs k _ _ _ _ _ _ _ _ _ _ _ _ _ _ _ _ _ _ _ _ _ _ _ _ _ _ _ x5 = _
    unfold fL_law_J2214
    rw [e1, bn_s, e2, bn_s]
    dsimp only
    rw [if_pos rfl]; rfl
  case hI => exact ⟨n, rfl, rfl, h⟩
theorem lc_33 {L : Nat} {xs : Nat → Int32} {x5 : Int32} (h1 : inb (x5 + (1 : Int32)) L = true) (h2 : inb (x5 + (2 : Int32)) L = true) (h3 : inb (x5 + (3 : Int32)) L = true) (h4 : inb (x5 + (4 : Int32)) L = true) (Tn : Int32) (Ta : (Nat → Int32)) (Fn : Int32) (Fa : (Nat → Int32)) (Ba : (Nat → Int32)) (Rn : Int32) (Ra : (Nat → Int32)) (Rb : (Nat → Int32)) (Rd : (Nat → Int32)) (Ua : (Nat → Int32)) (Wg : Int32) (Wz : Int32) (Ww : Int32) (Wr : Int32) (Mh : Int32) (Mn : Int32) (Mm : Int32) (Mt : (Nat → Int32)) (Mk : (Nat → Int32)) (Ms : (Nat → Int32)) (Me : (Nat → Int32)) (Mp : (Nat → Int32)) (Mw : (Nat → Int32)) (Ml : (Nat → Int32)) (My : (Nat → Int64)) (Oa : (Nat → Int64)) (Od : (Nat → UInt64)) (hT : TwoR Tn Ta Mn Mt) : GoesOn (fun k28 => fL_law_J2227 100000 L xs k28 Tn Ta Fn Fa Ba Rn Ra Rb Rd Ua Wg Wz Ww Wr Mh Mn Mm Mt Mk Ms Me Mp Mw Ml My Oa Od x5) x5 := by
  obtain ⟨n, rfl, rfl, h⟩ := hT
  obtain ⟨c, rn, ra, rb, rd, oa, r, mm, ms, me, mp, e1, e2, e4⟩ := ag_runStart (by decide : 100 ≤ 100000) h Rn Ra Rb Rd Oa Mh Mm Ms Me Mp (xs ((x5 + (1 : Int32))).toNatClampNeg)
  refine ⟨(nI n), Ta, Fn, Fa, Ba, rn, ra, rb, rd, Ua, Wg, Wz, Ww, Wr, c, (nI n), mm, Mt, Mk, ms, me, mp, Mw, Ml, My, oa, Od, ?hI, fun k => ?hk⟩
  case hk =>
    show fL_law_J2227 100000 L xs k _ _ _ _ _ _ _ _ _ _ _ _ _ _ _ _ _ _ _ _ _ _ _ _ _ _ _ x5 = _
    unfold fL_law_J2227 fX9_thrown
    simp only [h1, gd_t]
    rw [e1, bn_s, e2, bn_s, bn_s]
    dsimp only
    rw [if_pos rfl]
    by_cases hc : c = 0
    · rw [if_pos hc, inb01, gd_t, if_pos (show lg_cmp (oa (Int32.toNatClampNeg 0)) r.toInt64 = 0 from (lg_cmp_eq _ _).mpr (e4 hc))]; rfl
    · rw [if_neg hc]; rfl
  case hI => exact ⟨n, rfl, rfl, h⟩
theorem lc_34 {L : Nat} {xs : Nat → Int32} {x5 : Int32} (h1 : inb (x5 + (1 : Int32)) L = true) (h2 : inb (x5 + (2 : Int32)) L = true) (h3 : inb (x5 + (3 : Int32)) L = true) (h4 : inb (x5 + (4 : Int32)) L = true) (Tn : Int32) (Ta : (Nat → Int32)) (Fn : Int32) (Fa : (Nat → Int32)) (Ba : (Nat → Int32)) (Rn : Int32) (Ra : (Nat → Int32)) (Rb : (Nat → Int32)) (Rd : (Nat → Int32)) (Ua : (Nat → Int32)) (Wg : Int32) (Wz : Int32) (Ww : Int32) (Wr : Int32) (Mh : Int32) (Mn : Int32) (Mm : Int32) (Mt : (Nat → Int32)) (Mk : (Nat → Int32)) (Ms : (Nat → Int32)) (Me : (Nat → Int32)) (Mp : (Nat → Int32)) (Mw : (Nat → Int32)) (Ml : (Nat → Int32)) (My : (Nat → Int64)) (Oa : (Nat → Int64)) (Od : (Nat → UInt64)) (hT : TwoR Tn Ta Mn Mt) : GoesOn (fun k28 => fL_law_J2283 100000 L xs k28 Tn Ta Fn Fa Ba Rn Ra Rb Rd Ua Wg Wz Ww Wr Mh Mn Mm Mt Mk Ms Me Mp Mw Ml My Oa Od x5) x5 := by
  obtain ⟨n, rfl, rfl, h⟩ := hT
  obtain ⟨c, rn, ra, rb, rd, oa, r, mm, ms, me, mp, e1, e2, e4⟩ := ag_runEnd (by decide : 100 ≤ 100000) h Rn Ra Rb Rd Oa Mh Mm Ms Me Mp (xs ((x5 + (1 : Int32))).toNatClampNeg)
  refine ⟨(nI n), Ta, Fn, Fa, Ba, rn, ra, rb, rd, Ua, Wg, Wz, Ww, Wr, c, (nI n), mm, Mt, Mk, ms, me, mp, Mw, Ml, My, oa, Od, ?hI, fun k => ?hk⟩
  case hk =>
    show fL_law_J2283 100000 L xs k _ _ _ _ _ _ _ _ _ _ _ _ _ _ _ _ _ _ _ _ _ _ _ _ _ _ _ x5 = _
    unfold fL_law_J2283 fX9_thrown
    simp only [h1, gd_t]
    rw [e1, bn_s, e2, bn_s, bn_s]
    dsimp only
    rw [if_pos rfl]
    by_cases hc : c = 0
    · rw [if_pos hc, inb01, gd_t, if_pos (show lg_cmp (oa (Int32.toNatClampNeg 0)) r.toInt64 = 0 from (lg_cmp_eq _ _).mpr (e4 hc))]; rfl
    · rw [if_neg hc]; rfl
  case hI => exact ⟨n, rfl, rfl, h⟩
theorem lc_35 {L : Nat} {xs : Nat → Int32} {x5 : Int32} (h1 : inb (x5 + (1 : Int32)) L = true) (h2 : inb (x5 + (2 : Int32)) L = true) (h3 : inb (x5 + (3 : Int32)) L = true) (h4 : inb (x5 + (4 : Int32)) L = true) (Tn : Int32) (Ta : (Nat → Int32)) (Fn : Int32) (Fa : (Nat → Int32)) (Ba : (Nat → Int32)) (Rn : Int32) (Ra : (Nat → Int32)) (Rb : (Nat → Int32)) (Rd : (Nat → Int32)) (Ua : (Nat → Int32)) (Wg : Int32) (Wz : Int32) (Ww : Int32) (Wr : Int32) (Mh : Int32) (Mn : Int32) (Mm : Int32) (Mt : (Nat → Int32)) (Mk : (Nat → Int32)) (Ms : (Nat → Int32)) (Me : (Nat → Int32)) (Mp : (Nat → Int32)) (Mw : (Nat → Int32)) (Ml : (Nat → Int32)) (My : (Nat → Int64)) (Oa : (Nat → Int64)) (Od : (Nat → UInt64)) (hT : TwoR Tn Ta Mn Mt) : GoesOn (fun k28 => fL_law_J2339 100000 L xs k28 Tn Ta Fn Fa Ba Rn Ra Rb Rd Ua Wg Wz Ww Wr Mh Mn Mm Mt Mk Ms Me Mp Mw Ml My Oa Od x5) x5 := by
  obtain ⟨n, rfl, rfl, h⟩ := hT
  obtain ⟨c, rn, ra, rb, rd, oa, r, mm, ms, me, mp, e1, e2, e4⟩ := ag_runPeriod (by decide : 100 ≤ 100000) h Rn Ra Rb Rd Oa Mh Mm Ms Me Mp (xs ((x5 + (1 : Int32))).toNatClampNeg)
  refine ⟨(nI n), Ta, Fn, Fa, Ba, rn, ra, rb, rd, Ua, Wg, Wz, Ww, Wr, c, (nI n), mm, Mt, Mk, ms, me, mp, Mw, Ml, My, oa, Od, ?hI, fun k => ?hk⟩
  case hk =>
    show fL_law_J2339 100000 L xs k _ _ _ _ _ _ _ _ _ _ _ _ _ _ _ _ _ _ _ _ _ _ _ _ _ _ _ x5 = _
    unfold fL_law_J2339 fX9_thrown
    simp only [h1, gd_t]
    rw [e1, bn_s, e2, bn_s, bn_s]
    dsimp only
    rw [if_pos rfl]
    by_cases hc : c = 0
    · rw [if_pos hc, inb01, gd_t, if_pos (show lg_cmp (oa (Int32.toNatClampNeg 0)) r.toInt64 = 0 from (lg_cmp_eq _ _).mpr (e4 hc))]; rfl
    · rw [if_neg hc]; rfl
  case hI => exact ⟨n, rfl, rfl, h⟩
theorem lc_36 {L : Nat} {xs : Nat → Int32} {x5 : Int32} (h1 : inb (x5 + (1 : Int32)) L = true) (h2 : inb (x5 + (2 : Int32)) L = true) (h3 : inb (x5 + (3 : Int32)) L = true) (h4 : inb (x5 + (4 : Int32)) L = true) (Tn : Int32) (Ta : (Nat → Int32)) (Fn : Int32) (Fa : (Nat → Int32)) (Ba : (Nat → Int32)) (Rn : Int32) (Ra : (Nat → Int32)) (Rb : (Nat → Int32)) (Rd : (Nat → Int32)) (Ua : (Nat → Int32)) (Wg : Int32) (Wz : Int32) (Ww : Int32) (Wr : Int32) (Mh : Int32) (Mn : Int32) (Mm : Int32) (Mt : (Nat → Int32)) (Mk : (Nat → Int32)) (Ms : (Nat → Int32)) (Me : (Nat → Int32)) (Mp : (Nat → Int32)) (Mw : (Nat → Int32)) (Ml : (Nat → Int32)) (My : (Nat → Int64)) (Oa : (Nat → Int64)) (Od : (Nat → UInt64)) (hT : TwoR Tn Ta Mn Mt) : GoesOn (fun k28 => fL_law_J2395 100000 L xs k28 Tn Ta Fn Fa Ba Rn Ra Rb Rd Ua Wg Wz Ww Wr Mh Mn Mm Mt Mk Ms Me Mp Mw Ml My Oa Od x5) x5 := by
  obtain ⟨n, rfl, rfl, h⟩ := hT
  obtain ⟨c, rn, ra, rb, rd, oa, r, mm, ms, me, mp, e1, e2, e4⟩ := ag_runsOver (by decide : 100 ≤ 100000) h Rn Ra Rb Rd Oa Mh Mm Ms Me Mp (xs ((x5 + (1 : Int32))).toNatClampNeg)
  refine ⟨(nI n), Ta, Fn, Fa, Ba, rn, ra, rb, rd, Ua, Wg, Wz, Ww, Wr, c, (nI n), mm, Mt, Mk, ms, me, mp, Mw, Ml, My, oa, Od, ?hI, fun k => ?hk⟩
  case hk =>
    show fL_law_J2395 100000 L xs k _ _ _ _ _ _ _ _ _ _ _ _ _ _ _ _ _ _ _ _ _ _ _ _ _ _ _ x5 = _
    unfold fL_law_J2395 fX9_thrown
    simp only [h1, gd_t]
    rw [e1, bn_s, e2, bn_s, bn_s]
    dsimp only
    rw [if_pos rfl]
    by_cases hc : c = 0
    · rw [if_pos hc, inb01, gd_t, if_pos (show lg_cmp (oa (Int32.toNatClampNeg 0)) r.toInt64 = 0 from (lg_cmp_eq _ _).mpr (e4 hc))]; rfl
    · rw [if_neg hc]; rfl
  case hI => exact ⟨n, rfl, rfl, h⟩
theorem lc_37 {L : Nat} {xs : Nat → Int32} {x5 : Int32} (h1 : inb (x5 + (1 : Int32)) L = true) (h2 : inb (x5 + (2 : Int32)) L = true) (h3 : inb (x5 + (3 : Int32)) L = true) (h4 : inb (x5 + (4 : Int32)) L = true) (Tn : Int32) (Ta : (Nat → Int32)) (Fn : Int32) (Fa : (Nat → Int32)) (Ba : (Nat → Int32)) (Rn : Int32) (Ra : (Nat → Int32)) (Rb : (Nat → Int32)) (Rd : (Nat → Int32)) (Ua : (Nat → Int32)) (Wg : Int32) (Wz : Int32) (Ww : Int32) (Wr : Int32) (Mh : Int32) (Mn : Int32) (Mm : Int32) (Mt : (Nat → Int32)) (Mk : (Nat → Int32)) (Ms : (Nat → Int32)) (Me : (Nat → Int32)) (Mp : (Nat → Int32)) (Mw : (Nat → Int32)) (Ml : (Nat → Int32)) (My : (Nat → Int64)) (Oa : (Nat → Int64)) (Od : (Nat → UInt64)) (hT : TwoR Tn Ta Mn Mt) : GoesOn (fun k28 => fL_law_J2451 100000 L xs k28 Tn Ta Fn Fa Ba Rn Ra Rb Rd Ua Wg Wz Ww Wr Mh Mn Mm Mt Mk Ms Me Mp Mw Ml My Oa Od x5) x5 := by
  obtain ⟨n, rfl, rfl, h⟩ := hT
  obtain ⟨r, rn, ra, rb, rd, mm, ms, me, mp, e1, e2⟩ := ag_exponentsOfRuns (by decide : 100 ≤ 100000) h Rn Ra Rb Rd Mh Mm Ms Me Mp
  refine ⟨(nI n), Ta, Fn, Fa, Ba, rn, ra, rb, rd, Ua, Wg, Wz, Ww, Wr, (0 : Int32), (nI n), mm, Mt, Mk, ms, me, mp, Mw, Ml, My, Oa, Od, ?hI, fun k => ?hk⟩
  case hk =>
    show fL_law_J2451 100000 L xs k _ _ _ _ _ _ _ _ _ _ _ _ _ _ _ _ _ _ _ _ _ _ _ _ _ _ _ x5 = _
    unfold fL_law_J2451
    rw [e1, bn_s, e2, bn_s]
    dsimp only
    by_cases q : Op.cmpValue (FP.dcmp r r) CmpOp.l = 0
    · rw [if_pos q]; rfl
    · rw [if_neg q, if_neg q, if_neg q]; rfl
  case hI => exact ⟨n, rfl, rfl, h⟩
theorem lc_38 {L : Nat} {xs : Nat → Int32} {x5 : Int32} (h1 : inb (x5 + (1 : Int32)) L = true) (h2 : inb (x5 + (2 : Int32)) L = true) (h3 : inb (x5 + (3 : Int32)) L = true) (h4 : inb (x5 + (4 : Int32)) L = true) (Tn : Int32) (Ta : (Nat → Int32)) (Fn : Int32) (Fa : (Nat → Int32)) (Ba : (Nat → Int32)) (Rn : Int32) (Ra : (Nat → Int32)) (Rb : (Nat → Int32)) (Rd : (Nat → Int32)) (Ua : (Nat → Int32)) (Wg : Int32) (Wz : Int32) (Ww : Int32) (Wr : Int32) (Mh : Int32) (Mn : Int32) (Mm : Int32) (Mt : (Nat → Int32)) (Mk : (Nat → Int32)) (Ms : (Nat → Int32)) (Me : (Nat → Int32)) (Mp : (Nat → Int32)) (Mw : (Nat → Int32)) (Ml : (Nat → Int32)) (My : (Nat → Int64)) (Oa : (Nat → Int64)) (Od : (Nat → UInt64)) (hT : TwoR Tn Ta Mn Mt) : GoesOn (fun k28 => fL_law_J2492 100000 L xs k28 Tn Ta Fn Fa Ba Rn Ra Rb Rd Ua Wg Wz Ww Wr Mh Mn Mm Mt Mk Ms Me Mp Mw Ml My Oa Od x5) x5 := by
  obtain ⟨n, rfl, rfl, h⟩ := hT
  obtain ⟨r, rn, ra, rb, rd, e1, e2⟩ := ag_squares (by decide : 100 ≤ 100000) h Rn Ra Rb Rd Mh Mm
  refine ⟨(nI n), Ta, Fn, Fa, Ba, rn, ra, rb, rd, Ua, Wg, Wz, Ww, Wr, (0 : Int32), (nI n), Mm, Mt, Mk, Ms, Me, Mp, Mw, Ml, My, Oa, Od, ?hI, fun k => ?hk⟩
  case hk =>
    show fL_law_J2492 100000 L xs k _ _ _ _ _ _ _ _ _ _ _ _ _ _ _ _ _ _ _ _ _ _ _ _ _ _ _ x5 = _
    unfold fL_law_J2492
    rw [e1, bn_s, e2, bn_s]
    dsimp only
    rw [if_pos rfl]; rfl
  case hI => exact ⟨n, rfl, rfl, h⟩
theorem lc_39 {L : Nat} {xs : Nat → Int32} {x5 : Int32} (h1 : inb (x5 + (1 : Int32)) L = true) (h2 : inb (x5 + (2 : Int32)) L = true) (h3 : inb (x5 + (3 : Int32)) L = true) (h4 : inb (x5 + (4 : Int32)) L = true) (Tn : Int32) (Ta : (Nat → Int32)) (Fn : Int32) (Fa : (Nat → Int32)) (Ba : (Nat → Int32)) (Rn : Int32) (Ra : (Nat → Int32)) (Rb : (Nat → Int32)) (Rd : (Nat → Int32)) (Ua : (Nat → Int32)) (Wg : Int32) (Wz : Int32) (Ww : Int32) (Wr : Int32) (Mh : Int32) (Mn : Int32) (Mm : Int32) (Mt : (Nat → Int32)) (Mk : (Nat → Int32)) (Ms : (Nat → Int32)) (Me : (Nat → Int32)) (Mp : (Nat → Int32)) (Mw : (Nat → Int32)) (Ml : (Nat → Int32)) (My : (Nat → Int64)) (Oa : (Nat → Int64)) (Od : (Nat → UInt64)) (hT : TwoR Tn Ta Mn Mt) : GoesOn (fun k28 => fL_law_J2505 100000 L xs k28 Tn Ta Fn Fa Ba Rn Ra Rb Rd Ua Wg Wz Ww Wr Mh Mn Mm Mt Mk Ms Me Mp Mw Ml My Oa Od x5) x5 := by
  obtain ⟨n, rfl, rfl, h⟩ := hT
  obtain ⟨c, ua, oa, r, e1, e2, e4⟩ := ag_suffixAt (by decide : 100 ≤ 100000) h Ua Oa Mh Mm (xs ((x5 + (1 : Int32))).toNatClampNeg)
  refine ⟨(nI n), Ta, Fn, Fa, Ba, Rn, Ra, Rb, Rd, ua, Wg, Wz, Ww, Wr, c, (nI n), Mm, Mt, Mk, Ms, Me, Mp, Mw, Ml, My, oa, Od, ?hI, fun k => ?hk⟩
  case hk =>
    show fL_law_J2505 100000 L xs k _ _ _ _ _ _ _ _ _ _ _ _ _ _ _ _ _ _ _ _ _ _ _ _ _ _ _ x5 = _
    unfold fL_law_J2505 fX9_thrown
    simp only [h1, gd_t]
    rw [e1, bn_s, e2, bn_s, bn_s]
    dsimp only
    rw [if_pos rfl]
    by_cases hc : c = 0
    · rw [if_pos hc, inb01, gd_t, if_pos (show lg_cmp (oa (Int32.toNatClampNeg 0)) r.toInt64 = 0 from (lg_cmp_eq _ _).mpr (e4 hc))]; rfl
    · rw [if_neg hc]; rfl
  case hI => exact ⟨n, rfl, rfl, h⟩
theorem lc_40 {L : Nat} {xs : Nat → Int32} {x5 : Int32} (h1 : inb (x5 + (1 : Int32)) L = true) (h2 : inb (x5 + (2 : Int32)) L = true) (h3 : inb (x5 + (3 : Int32)) L = true) (h4 : inb (x5 + (4 : Int32)) L = true) (Tn : Int32) (Ta : (Nat → Int32)) (Fn : Int32) (Fa : (Nat → Int32)) (Ba : (Nat → Int32)) (Rn : Int32) (Ra : (Nat → Int32)) (Rb : (Nat → Int32)) (Rd : (Nat → Int32)) (Ua : (Nat → Int32)) (Wg : Int32) (Wz : Int32) (Ww : Int32) (Wr : Int32) (Mh : Int32) (Mn : Int32) (Mm : Int32) (Mt : (Nat → Int32)) (Mk : (Nat → Int32)) (Ms : (Nat → Int32)) (Me : (Nat → Int32)) (Mp : (Nat → Int32)) (Mw : (Nat → Int32)) (Ml : (Nat → Int32)) (My : (Nat → Int64)) (Oa : (Nat → Int64)) (Od : (Nat → UInt64)) (hT : TwoR Tn Ta Mn Mt) : GoesOn (fun k28 => fL_law_J2561 100000 L xs k28 Tn Ta Fn Fa Ba Rn Ra Rb Rd Ua Wg Wz Ww Wr Mh Mn Mm Mt Mk Ms Me Mp Mw Ml My Oa Od x5) x5 := by
  obtain ⟨n, rfl, rfl, h⟩ := hT
  obtain ⟨c, ua, oa, r, e1, e2, e4⟩ := ag_rankOf (by decide : 100 ≤ 100000) h Ua Oa Mh Mm (xs ((x5 + (1 : Int32))).toNatClampNeg)
  refine ⟨(nI n), Ta, Fn, Fa, Ba, Rn, Ra, Rb, Rd, ua, Wg, Wz, Ww, Wr, c, (nI n), Mm, Mt, Mk, Ms, Me, Mp, Mw, Ml, My, oa, Od, ?hI, fun k => ?hk⟩
  case hk =>
    show fL_law_J2561 100000 L xs k _ _ _ _ _ _ _ _ _ _ _ _ _ _ _ _ _ _ _ _ _ _ _ _ _ _ _ x5 = _
    unfold fL_law_J2561 fX9_thrown
    simp only [h1, gd_t]
    rw [e1, bn_s, e2, bn_s, bn_s]
    dsimp only
    rw [if_pos rfl]
    by_cases hc : c = 0
    · rw [if_pos hc, inb01, gd_t, if_pos (show lg_cmp (oa (Int32.toNatClampNeg 0)) r.toInt64 = 0 from (lg_cmp_eq _ _).mpr (e4 hc))]; rfl
    · rw [if_neg hc]; rfl
  case hI => exact ⟨n, rfl, rfl, h⟩
theorem lc_41 {L : Nat} {xs : Nat → Int32} {x5 : Int32} (h1 : inb (x5 + (1 : Int32)) L = true) (h2 : inb (x5 + (2 : Int32)) L = true) (h3 : inb (x5 + (3 : Int32)) L = true) (h4 : inb (x5 + (4 : Int32)) L = true) (Tn : Int32) (Ta : (Nat → Int32)) (Fn : Int32) (Fa : (Nat → Int32)) (Ba : (Nat → Int32)) (Rn : Int32) (Ra : (Nat → Int32)) (Rb : (Nat → Int32)) (Rd : (Nat → Int32)) (Ua : (Nat → Int32)) (Wg : Int32) (Wz : Int32) (Ww : Int32) (Wr : Int32) (Mh : Int32) (Mn : Int32) (Mm : Int32) (Mt : (Nat → Int32)) (Mk : (Nat → Int32)) (Ms : (Nat → Int32)) (Me : (Nat → Int32)) (Mp : (Nat → Int32)) (Mw : (Nat → Int32)) (Ml : (Nat → Int32)) (My : (Nat → Int64)) (Oa : (Nat → Int64)) (Od : (Nat → UInt64)) (hT : TwoR Tn Ta Mn Mt) : GoesOn (fun k28 => fL_law_J2617 100000 L xs k28 Tn Ta Fn Fa Ba Rn Ra Rb Rd Ua Wg Wz Ww Wr Mh Mn Mm Mt Mk Ms Me Mp Mw Ml My Oa Od x5) x5 := by
  obtain ⟨n, rfl, rfl, h⟩ := hT
  obtain ⟨c, oa, r, my, e1, e2, e4⟩ := ag_necklaces (n := n) Oa Mh Mm (xs ((x5 + (1 : Int32))).toNatClampNeg) (xs ((x5 + (2 : Int32))).toNatClampNeg) My
  refine ⟨(nI n), Ta, Fn, Fa, Ba, Rn, Ra, Rb, Rd, Ua, Wg, Wz, Ww, Wr, c, (nI n), Mm, Mt, Mk, Ms, Me, Mp, Mw, Ml, my, oa, Od, ?hI, fun k => ?hk⟩
  case hk =>
    show fL_law_J2617 100000 L xs k _ _ _ _ _ _ _ _ _ _ _ _ _ _ _ _ _ _ _ _ _ _ _ _ _ _ _ x5 = _
    unfold fL_law_J2617 fX9_thrown
    simp only [h1, h2, gd_t]
    rw [e1, bn_s, e2, bn_s, bn_s]
    dsimp only
    rw [if_pos rfl]
    by_cases hc : c = 0
    · rw [if_pos hc, inb01, gd_t, if_pos (show lg_cmp (oa (Int32.toNatClampNeg 0)) r = 0 from (lg_cmp_eq _ _).mpr (e4 hc))]; rfl
    · rw [if_neg hc]; rfl
  case hI => exact ⟨n, rfl, rfl, h⟩
theorem lc_42 {L : Nat} {xs : Nat → Int32} {x5 : Int32} (h1 : inb (x5 + (1 : Int32)) L = true) (h2 : inb (x5 + (2 : Int32)) L = true) (h3 : inb (x5 + (3 : Int32)) L = true) (h4 : inb (x5 + (4 : Int32)) L = true) (Tn : Int32) (Ta : (Nat → Int32)) (Fn : Int32) (Fa : (Nat → Int32)) (Ba : (Nat → Int32)) (Rn : Int32) (Ra : (Nat → Int32)) (Rb : (Nat → Int32)) (Rd : (Nat → Int32)) (Ua : (Nat → Int32)) (Wg : Int32) (Wz : Int32) (Ww : Int32) (Wr : Int32) (Mh : Int32) (Mn : Int32) (Mm : Int32) (Mt : (Nat → Int32)) (Mk : (Nat → Int32)) (Ms : (Nat → Int32)) (Me : (Nat → Int32)) (Mp : (Nat → Int32)) (Mw : (Nat → Int32)) (Ml : (Nat → Int32)) (My : (Nat → Int64)) (Oa : (Nat → Int64)) (Od : (Nat → UInt64)) (hT : TwoR Tn Ta Mn Mt) : GoesOn (fun k28 => fL_law_J2684 100000 L xs k28 Tn Ta Fn Fa Ba Rn Ra Rb Rd Ua Wg Wz Ww Wr Mh Mn Mm Mt Mk Ms Me Mp Mw Ml My Oa Od x5) x5 := by
  obtain ⟨n, rfl, rfl, h⟩ := hT
  obtain ⟨c, oa, r, my, e1, e2, e4⟩ := ag_lyndonWords (n := n) Oa Mh Mm (xs ((x5 + (1 : Int32))).toNatClampNeg) (xs ((x5 + (2 : Int32))).toNatClampNeg) My
  refine ⟨(nI n), Ta, Fn, Fa, Ba, Rn, Ra, Rb, Rd, Ua, Wg, Wz, Ww, Wr, c, (nI n), Mm, Mt, Mk, Ms, Me, Mp, Mw, Ml, my, oa, Od, ?hI, fun k => ?hk⟩
  case hk =>
    show fL_law_J2684 100000 L xs k _ _ _ _ _ _ _ _ _ _ _ _ _ _ _ _ _ _ _ _ _ _ _ _ _ _ _ x5 = _
    unfold fL_law_J2684 fX9_thrown
    simp only [h1, h2, gd_t]
    rw [e1, bn_s, e2, bn_s, bn_s]
    dsimp only
    rw [if_pos rfl]
    by_cases hc : c = 0
    · rw [if_pos hc, inb01, gd_t, if_pos (show lg_cmp (oa (Int32.toNatClampNeg 0)) r = 0 from (lg_cmp_eq _ _).mpr (e4 hc))]; rfl
    · rw [if_neg hc]; rfl
  case hI => exact ⟨n, rfl, rfl, h⟩
theorem lc_43 {L : Nat} {xs : Nat → Int32} {x5 : Int32} (h1 : inb (x5 + (1 : Int32)) L = true) (h2 : inb (x5 + (2 : Int32)) L = true) (h3 : inb (x5 + (3 : Int32)) L = true) (h4 : inb (x5 + (4 : Int32)) L = true) (Tn : Int32) (Ta : (Nat → Int32)) (Fn : Int32) (Fa : (Nat → Int32)) (Ba : (Nat → Int32)) (Rn : Int32) (Ra : (Nat → Int32)) (Rb : (Nat → Int32)) (Rd : (Nat → Int32)) (Ua : (Nat → Int32)) (Wg : Int32) (Wz : Int32) (Ww : Int32) (Wr : Int32) (Mh : Int32) (Mn : Int32) (Mm : Int32) (Mt : (Nat → Int32)) (Mk : (Nat → Int32)) (Ms : (Nat → Int32)) (Me : (Nat → Int32)) (Mp : (Nat → Int32)) (Mw : (Nat → Int32)) (Ml : (Nat → Int32)) (My : (Nat → Int64)) (Oa : (Nat → Int64)) (Od : (Nat → UInt64)) (hT : TwoR Tn Ta Mn Mt) : GoesOn (fun k28 => fL_law_J2751 100000 L xs k28 Tn Ta Fn Fa Ba Rn Ra Rb Rd Ua Wg Wz Ww Wr Mh Mn Mm Mt Mk Ms Me Mp Mw Ml My Oa Od x5) x5 := by
  obtain ⟨n, rfl, rfl, h⟩ := hT
  obtain ⟨c, wg, wz, ww, wr, oa, r, mw, e1, e2, e4⟩ := ag_necklaceNumber (fun _ _ => walkOk) h Wg Wz Ww Wr Oa Mh Mm Mw (xs ((x5 + (1 : Int32))).toNatClampNeg) (xs ((x5 + (2 : Int32))).toNatClampNeg) (xs ((x5 + (3 : Int32))).toNatClampNeg)
  refine ⟨(nI n), Ta, Fn, Fa, Ba, Rn, Ra, Rb, Rd, Ua, wg, wz, ww, wr, c, (nI n), Mm, Mt, Mk, Ms, Me, Mp, mw, Ml, My, oa, Od, ?hI, fun k => ?hk⟩
  case hk =>
    show fL_law_J2751 100000 L xs k _ _ _ _ _ _ _ _ _ _ _ _ _ _ _ _ _ _ _ _ _ _ _ _ _ _ _ x5 = _
    unfold fL_law_J2751 fX9_thrown
    simp only [h1, h2, h3, gd_t]
    rw [e1, bn_s, e2, bn_s, bn_s]
    dsimp only
    rw [if_pos rfl]
    by_cases hc : c = 0
    · rw [if_pos hc, inb01, gd_t, if_pos (show lg_cmp (oa (Int32.toNatClampNeg 0)) r.toInt64 = 0 from (lg_cmp_eq _ _).mpr (e4 hc))]; rfl
    · rw [if_neg hc]; rfl
  case hI => exact ⟨n, rfl, rfl, h⟩
