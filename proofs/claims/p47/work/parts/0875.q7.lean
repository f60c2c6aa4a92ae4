/-! p47: a part's periods, root and rotations -/
theorem dcmp_q : ∀ a : Fin 65, ∀ b : Fin 65, b.val = 0 ∨ Op.cmpValue (FP.dcmp (FP.ddiv (FP.i2d (nI a.val)) (FP.i2d (nI b.val))) (FP.ddiv (FP.i2d (nI a.val)) (FP.i2d (nI b.val)))) CmpOp.l = 0 := by decide +kernel
theorem dcmp_qn {a b : Nat} (ha : a ≤ 64) (hb : b ≤ 64) (h0 : 1 ≤ b) : Op.cmpValue (FP.dcmp (FP.ddiv (FP.i2d (nI a)) (FP.i2d (nI b))) (FP.ddiv (FP.i2d (nI a)) (FP.i2d (nI b)))) CmpOp.l = 0 := by
  rcases dcmp_q ⟨a, by omega⟩ ⟨b, by omega⟩ with h | h
  · exact absurd h (show ¬ b = 0 by omega)
  · exact h
section PART
variable {N n : Nat} {w : Nat → Nat} {f : Nat → Int32}
theorem part_J337 {x8 : Int32} (Ba : Nat → Int32) (h : x8 = (1 : Int32)) : ∃ ba, fL_isPartSo_J337 N (nI n) f Ba x8 = some ((1 : Int32), ba) := by
  subst h
  unfold fL_isPartSo_J337
  rw [gB1]
  exact ⟨_, rfl⟩
theorem part_J259 (hN : 100 ≤ N) (h : Rp n w f) {a b : Nat} (hab : a < b) (hb : b ≤ n) (Ba : Nat → Int32) : ∃ ba, fL_isPartSo_J259 N (nI n) f Ba (nI a) (nI b) (nI (b - a)) (1 : Int32) = some ((1 : Int32), ba) := by
  have hn := h.le
  unfold fL_isPartSo_J259
  rw [if_neg i10', an_isLyndon hN h hab hb, bx_r]
  by_cases hL : LY false w a b
  · rw [pI_t hL, if_neg n1_0]
    by_cases e : b - a ≤ 1
    · rw [if_pos (by rw [q_1, nI_leI (by omega) (by omega)]; exact e)]
      exact part_J337 Ba rfl
    · obtain ⟨s1, s2, s3, s4⟩ := std_least (w := w) (a := a) (b := b) (by omega) rfl
      obtain ⟨l, g, k1, k2⟩ := an_border hN h hab hb Ba
      have hl0 : l = 0 := LY_noborder (m := b - a) (by rw [show a + (b - a) = b by omega]; exact hL) k2
      rw [if_neg (by rw [q_1, nI_leI (by omega) (by omega)]; exact e), an_standard hN h (by omega) hb hL, bx_r]
      generalize lf (fun s => LY false w s b) (a + 1) (b - (a + 1) - 1) = S at s1 s2 s3 s4
      obtain ⟨v, c1, c2⟩ := an_compare (N := N) hN h (a := a) (b := S) (c := S) (e := b) s1 (by omega) s2 hb
      rw [an_isLyndon hN h s1 (by omega), bx_r, pI_t (std_left hL s1 s2 s4), if_neg n1_0, an_isLyndon hN h s2 hb, bx_r, pI_t s3, if_neg n1_0, c1, bx_r, if_neg (v_lt c2 (std_less hL s1 s2)), k1, bx_r]
      dsimp only
      rw [hl0, if_pos n0_0]
      exact part_J337 g rfl
  · rw [pI_f hL, if_pos n0_0]
    exact part_J337 Ba rfl
theorem part_J238 (hN : 100 ≤ N) (h : Rp n w f) {a b : Nat} (hab : a < b) (hb : b ≤ n) (Ba : Nat → Int32) {y0 y1 : Int32} (hy : y0 = y1) : ∃ ba, fL_isPartSo_J238 N (nI n) f Ba (nI a) (nI b) (nI (b - a)) (nI (lp w a b)) y0 y1 = some ((1 : Int32), ba) := by
  have hn := h.le
  have hl := lp_spec (w := w) hab
  have hm := periods_many (w := w) hab
  have hct := ct_le (per w a b) (b - a) 1
  obtain ⟨g, g1⟩ := an_periods hN h hab hb Ba
  unfold fL_isPartSo_J238
  rw [if_pos hy, g1, bx_r, q_nz (by omega) (by omega), gd_t, q_div (by omega) (by omega) (by omega)]
  dsimp only
  rw [if_neg (by
    have hd : (b - a) / lp w a b ≤ b - a := Nat.div_le_self _ _
    rw [nI_ltI (by omega) (by omega)]; omega)]
  exact part_J259 hN h hab hb g
theorem part_J213 (hN : 100 ≤ N) (h : Rp n w f) {a b : Nat} (hab : a < b) (hb : b ≤ n) (Ba : Nat → Int32) {y0 y1 : Int32} (hy : y0 = y1) : ∃ ba, fL_isPartSo_J213 N (nI n) f Ba (nI a) (nI b) (nI (b - a)) (nI (lp w a b)) (nI (rt w a b)) (nI (lb w a (b - a) (b - a - 1) 1 0)) y0 y1 = some ((1 : Int32), ba) := by
  have hn := h.le
  have hr := rt_spec (w := w) hab
  have hlb := least_rt h hab hb
  have hk := LY_neck h hab hb
  unfold fL_isPartSo_J213
  rw [if_pos hy, an_isLyndon hN h hab hb, bx_r]
  by_cases e : lb w a (b - a) (b - a - 1) 1 0 = 0
  · rw [if_pos (by rw [e]; rfl)]
    by_cases e2 : rt w a b = b - a
    · rw [if_pos (by rw [e2])]
      exact part_J238 hN h hab hb Ba (pI_t (hk.mpr ⟨e, e2⟩))
    · rw [if_neg (fun hh => e2 (nI_inj (by omega) (by omega) hh))]
      unfold fL_isPartSo_J237
      exact part_J238 hN h hab hb Ba (pI_f (fun hh => e2 (hk.mp hh).2))
  · rw [if_neg (by rw [nI_z (by omega)]; exact e)]
    unfold fL_isPartSo_J237
    exact part_J238 hN h hab hb Ba (pI_f (fun hh => e (hk.mp hh).1))
theorem part_J176 (hN : 100 ≤ N) (h : Rp n w f) {a b : Nat} (hab : a < b) (hb : b ≤ n) (Ba : Nat → Int32) : ∃ ba, fL_isPartSo_J176 N (nI n) f Ba (nI a) (nI b) (nI (b - a)) (nI (lp w a b)) (nI (rt w a b)) (nI (lb w a (b - a) (b - a - 1) 1 0)) (nI (gb w a (b - a) (b - a - 1) 1 0)) (1 : Int32) = some ((1 : Int32), ba) := by
  have hn := h.le
  have hr := rt_spec (w := w) hab
  have hlb := least_rt h hab hb
  have hgb := greatest_rt h hab hb
  unfold fL_isPartSo_J176
  rw [if_neg i10', if_neg (by rw [nI_leI (by omega) (by omega)]; omega), if_neg (by rw [nI_leI (by omega) (by omega)]; omega), an_isNecklace hN h hab hb, bx_r]
  by_cases e : lb w a (b - a) (b - a - 1) 1 0 = 0
  · rw [if_pos (by rw [e]; rfl)]
    exact part_J213 hN h hab hb Ba (pI_t e)
  · rw [if_neg (by rw [nI_z (by omega)]; exact e)]
    exact part_J213 hN h hab hb Ba (pI_f e)
theorem part_J155 (hN : 100 ≤ N) (h : Rp n w f) {a b : Nat} (hab : a < b) (hb : b ≤ n) (Ba : Nat → Int32) : ∃ ba, fL_isPartSo_J155 N (nI n) f Ba (nI a) (nI b) (nI (b - a)) (nI (lp w a b)) (nI (rt w a b)) (nI (lb w a (b - a) (b - a - 1) 1 0)) (nI (gb w a (b - a) (b - a - 1) 1 0)) = some ((1 : Int32), ba) := by
  have hn := h.le
  have hl := lp_spec (w := w) hab
  obtain ⟨g, g1⟩ := an_exponent hN h hab hb Ba
  unfold fL_isPartSo_J155
  rw [g1, bx_r, nonan_qn (by omega) (by omega) (by omega), gd_t]
  dsimp only
  rw [if_pos (dcmp_qn (by omega) (by omega) (by omega))]
  exact part_J176 hN h hab hb g
theorem part_J105 (hN : 100 ≤ N) (h : Rp n w f) {a b : Nat} (hab : a < b) (hb : b ≤ n) (Ba : Nat → Int32) : ∃ ba, fL_isPartSo_J105 N (nI n) f Ba (nI a) (nI b) (nI (b - a)) (nI (lp w a b)) (nI (rt w a b)) (nI (lb w a (b - a) (b - a - 1) 1 0)) (nI (gb w a (b - a) (b - a - 1) 1 0)) (1 : Int32) = some ((1 : Int32), ba) := by
  have hn := h.le
  obtain ⟨r1, r2, r3, r4, r5⟩ := rt_spec (w := w) hab
  have hl := lp_spec (w := w) hab
  obtain ⟨g, g1⟩ := an_rotations hN h hab hb Ba
  have hrl := rt_lp (w := w) hab
  unfold fL_isPartSo_J105
  rw [if_neg i10', q_nz (by omega) (by omega), gd_t, pk_rem (by omega) (by omega) (by omega), r3, if_pos n0_0, an_isPeriod hN h hab hb r1 r2, bx_r, pI_t r4, if_neg n1_0, g1, bx_r]
  dsimp only
  rw [if_pos rfl, q_nz (by omega) (by omega), gd_t, pk_rem (by omega) (by omega) (by omega)]
  by_cases e : (b - a) % lp w a b = 0
  · rw [if_pos (by rw [e]; rfl), if_pos (by rw [hrl, if_pos e])]
    exact part_J155 hN h hab hb g
  · rw [if_neg (by rw [nI_z (by have := Nat.mod_lt (b - a) (show lp w a b > 0 by omega); omega)]; exact e)]
    exact part_J155 hN h hab hb g
theorem part_nI (hN : 100 ≤ N) (h : Rp n w f) {a b : Nat} (hab : a < b) (hb : b ≤ n) (Ba : Nat → Int32) : ∃ ba, fL_isPartSo N (nI n) f Ba (nI a) (nI b) = some ((1 : Int32), ba) := by
  have hn := h.le
  obtain ⟨l1, l2, l3, l4⟩ := lp_spec (w := w) hab
  obtain ⟨g1, a1⟩ := an_period hN h hab hb Ba
  obtain ⟨g2, a2⟩ := an_rootLength hN h hab hb g1
  obtain ⟨l, g3, a3, a4⟩ := an_border hN h hab hb g2
  have hlp := LB_lp' hab a4
  have hlm := a4.1
  unfold fL_isPartSo
  rw [a1, bx_r]
  dsimp only
  rw [a2, bx_r, an_least hN h hab hb, bx_r, an_greatest hN h hab hb, bx_r]
  dsimp only
  rw [a3, bx_r]
  dsimp only
  rw [nI_add, q_sub (by omega), if_pos (by congr 1; omega), an_byTrying hN h hab hb, bx_r, if_pos rfl, an_isPeriod hN h hab hb l1 l2, bx_r, pI_t l3, if_neg n1_0, an_isPeriod hN h hab hb (by omega) (Nat.le_refl _), bx_r, pI_t (per_all (by omega)), if_neg n1_0]
  by_cases e : lp w a b = 1
  · rw [if_pos (by rw [e]; rfl)]
    exact part_J105 hN h hab hb g3
  · rw [if_neg (by rw [q_1, nI_eq (by omega) (by omega)]; exact e), q_1, q_sub (by omega), an_isPeriod hN h hab hb (by omega) (by omega), bx_r, pI_f (l4 _ (by omega) (by omega)), if_pos n0_0]
    exact part_J105 hN h hab hb g3
end PART
