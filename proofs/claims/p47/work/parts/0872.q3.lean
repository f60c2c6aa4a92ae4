/-! p47: what the class answers, at arguments that it takes -/
section AN
variable {N n : Nat} {w : Nat → Nat} {f : Nat → Int32}
theorem an_letterAt (h : Rp n w f) {j : Nat} (hj : j < n) : fX8_letterAt N (nI n) f (nI j) = some (.inr (nI (w j))) := by
  have hn := h.le
  unfold fX8_letterAt fX2_count
  rw [bn_s, idxOk N hj (by omega), bx_r, letter_nI (by omega), bn_s, h.at hj]
theorem an_compare (hN : 100 ≤ N) (h : Rp n w f) {a b c e : Nat} (hab : a < b) (hb : b ≤ n) (hce : c < e) (he : e ≤ n) : ∃ v, fX8_compare N (nI n) f (nI a) (nI b) (nI c) (nI e) = some (.inr v) ∧ (v < 0 ↔ PL false w a b c e) := by
  have hn := h.le
  have hneg : ∀ x y : Nat, (if x < y then (-1 : Int32) else if y < x then (1 : Int32) else (0 : Int32)) < 0 ↔ x < y := by
    intro x y
    by_cases q : x < y
    · rw [if_pos q]; exact ⟨fun _ => q, fun _ => by decide⟩
    · rw [if_neg q]
      refine ⟨fun hh => ?_, fun hh => absurd hh q⟩
      by_cases q2 : y < x
      · rw [if_pos q2] at hh; exact absurd hh (by decide)
      · rw [if_neg q2] at hh; exact absurd hh (by decide)
  unfold fX8_compare
  rw [partOk N hab hb hn, bx_r, partOk N hce he hn, bx_r, countSame_nI hN h (by omega) (by omega), bn_s]
  obtain ⟨s1, s2, s3, s4⟩ := lf_spec (fun k => w (a + k) ≠ w (c + k)) (n - max a c) 0
  generalize lf (fun k => w (a + k) ≠ w (c + k)) 0 (n - max a c) = k at s1 s2 s3 s4
  have s5 : ∀ j, j < k → w (a + j) = w (c + j) := fun j hj => Classical.byContradiction fun hh => s3 j (by omega) hj hh
  have hmin : (if nI e - nI c < nI b - nI a then nI e - nI c else nI b - nI a) = nI (min (b - a) (e - c)) := by
    rw [q_sub (by omega), q_sub (by omega)]
    by_cases q : e - c < b - a
    · rw [if_pos ((nI_ltI (by omega) (by omega)).mpr q)]; congr 1; omega
    · rw [if_neg (by rw [nI_ltI (by omega) (by omega)]; exact q)]; congr 1; omega
  rw [hmin]
  by_cases hk : min (b - a) (e - c) ≤ k
  · rw [if_pos ((nI_leI (by omega) (by omega)).mpr hk), q_sub (by omega), q_sub (by omega), cmp_nI (by omega) (by omega)]
    refine ⟨_, rfl, ?_⟩
    rw [hneg, PL_all (fun j hj => s5 j (by omega))]
  · have d := s4 (by omega)
    rw [if_neg (by rw [nI_leI (by omega) (by omega)]; exact hk), nI_add, nI_add, letter_nI (by omega), bn_s, letter_nI (by omega), bn_s, h.at (by omega), h.at (by omega), cmp_nI (by have := h.b (show a + k < n by omega); omega) (by have := h.b (show c + k < n by omega); omega)]
    refine ⟨_, rfl, ?_⟩
    rw [hneg, PL_at (k := k) (by omega) (by omega) s5 d]
    rfl
theorem an_isLyndon (hN : 100 ≤ N) (h : Rp n w f) {a b : Nat} (hab : a < b) (hb : b ≤ n) : fX8_isLyndon N (nI n) f (nI a) (nI b) = some (.inr (pI (LY false w a b))) := by
  have hn := h.le
  unfold fX8_isLyndon
  rw [partOk N hab hb hn, bx_r, isOneFactor_nI hN h hab hb, bn_s, pI_B, gd_t]
theorem an_longest (hN : 100 ≤ N) (h : Rp n w f) {a : Nat} (ha : a < n) : fX8_longestLyndon N (nI n) f (nI a) (0 : Int32) = some (.inr (nI (ll false w a n))) := by
  have hn := h.le
  unfold fX8_longestLyndon fX2_count
  rw [bn_s, idxOk N ha (by omega), bx_r, bn_s, (firstLength_ll hN h false (0 : Int32) (by simp) ha (Nat.le_refl n)).1, bn_s]
theorem an_standard (hN : 100 ≤ N) (h : Rp n w f) {a b : Nat} (hab : a + 1 < b) (hb : b ≤ n) (hL : LY false w a b) : fX8_standardFactor N (nI n) f (nI a) (nI b) = some (.inr (nI (lf (fun s => LY false w s b) (a + 1) (b - (a + 1) - 1)))) := by
  have hn := h.le
  unfold fX8_standardFactor
  rw [partOk N (show a < b by omega) hb hn, bx_r, if_neg (by rw [q_sub (by omega), q_1, nI_eq (by omega) (by omega)]; omega), isOneFactor_nI hN h (by omega) hb, bn_s, if_neg (by rw [pI_z]; exact fun hh => hh hL), q_1, nI_add, stdC_H hN h hb (b - (a + 1) - 1) (a + 1) N (by omega) (by omega)]
theorem an_factors (hN : 100 ≤ N) (h : Rp n w f) {F : Nat} (hF : F ≤ n) (h1 : fs w n F = n) (h2 : ∀ k, k < F → fs w n k < n ∧ fs w n k < fs w n (k + 1)) (Fn : Int32) (Fa : Nat → Int32) : ∃ g, fX8_factors N (nI n) f Fn Fa = some (nI F, nI F, g) := by
  obtain ⟨g, g1, g2⟩ := find_nI hN h hF h1 h2 Fn Fa
  unfold fX8_factors fX1_count
  rw [g1]
  exact ⟨g, rfl⟩
theorem an_factorStart (hN : 100 ≤ N) (h : Rp n w f) {F i : Nat} (hF : F ≤ n) (h1 : fs w n F = n) (h2 : ∀ k, k < F → fs w n k < n ∧ fs w n k < fs w n (k + 1)) (hi : i < F) (Fn : Int32) (Fa : Nat → Int32) : ∃ g, fX8_factorStart N (nI n) f Fn Fa (nI i) = some (.inr (nI (fs w n i), nI F, g)) := by
  have hn := h.le
  obtain ⟨g, g1, g2⟩ := find_nI hN h hF h1 h2 Fn Fa
  unfold fX8_factorStart fX8_findFactor fX1_count fX1_start
  rw [g1, bn_s, bn_s, idxOk N hi (by omega), bx_r, bx_r, at_nI (by omega) (by decide), bn_s, bn_s]
  dsimp only
  rw [g2 i (by omega)]
  exact ⟨g, rfl⟩
theorem an_factorLength (hN : 100 ≤ N) (h : Rp n w f) {F i : Nat} (hF : F ≤ n) (h1 : fs w n F = n) (h2 : ∀ k, k < F → fs w n k < n ∧ fs w n k < fs w n (k + 1)) (hi : i < F) (Fn : Int32) (Fa : Nat → Int32) : ∃ g, fX8_factorLength N (nI n) f Fn Fa (nI i) = some (.inr (nI (fs w n (i + 1) - fs w n i), nI F, g)) := by
  have hn := h.le
  obtain ⟨g, g1, g2⟩ := find_nI hN h hF h1 h2 Fn Fa
  have h3 := h2 i hi
  have h4 := fs_le h1 h2 (show i + 1 ≤ F by omega)
  unfold fX8_factorLength fX8_findFactor fX1_count fX1_start
  rw [g1, bn_s, bn_s, idxOk N hi (by omega), bx_r, bx_r, q_1, nI_add, at_nI (by omega) (by decide), bn_s, bn_s, at_nI (by omega) (by decide), bn_s, bn_s]
  dsimp only
  rw [g2 i (by omega), g2 (i + 1) (by omega), q_sub (by omega)]
  exact ⟨g, rfl⟩
theorem an_factorOver (hN : 100 ≤ N) (h : Rp n w f) {F p : Nat} (hF : F ≤ n) (h1 : fs w n F = n) (h2 : ∀ k, k < F → fs w n k < n ∧ fs w n k < fs w n (k + 1)) (hp : p < n) (Fn : Int32) (Fa : Nat → Int32) : ∃ g, fX8_factorOver N (nI n) f Fn Fa (nI p) = some (.inr (nI (lf (fun k => p < fs w n (k + 1)) 0 (F - 1)), nI F, g)) := by
  have hn := h.le
  obtain ⟨g, g1, g2⟩ := find_nI hN h hF h1 h2 Fn Fa
  have hF1 : 1 ≤ F := by
    rcases Nat.eq_zero_or_pos F with e | e
    · rw [e] at h1; simp [fs] at h1; omega
    · exact e
  have c1 := overC_H (N := N) hF hn h1 h2 g2 hp (F - 1) 0 N (by omega) (by omega)
  rw [← q_0] at c1
  unfold fX8_factorOver fX2_count fX1_numberOver
  rw [bn_s, idxOk N hp (by omega), bx_r, g1, bn_s, c1]
  exact ⟨g, rfl⟩
theorem an_least (hN : 100 ≤ N) (h : Rp n w f) {a b : Nat} (hab : a < b) (hb : b ≤ n) : fX8_leastRotation N (nI n) f (nI a) (nI b) = some (.inr (nI (lb w a (b - a) (b - a - 1) 1 0))) := by
  unfold fX8_leastRotation
  rw [partOk N hab hb h.le, bx_r, leastC_nI hN h hab hb, bn_s]
theorem an_greatest (hN : 100 ≤ N) (h : Rp n w f) {a b : Nat} (hab : a < b) (hb : b ≤ n) : fX8_greatestRotation N (nI n) f (nI a) (nI b) = some (.inr (nI (gb w a (b - a) (b - a - 1) 1 0))) := by
  have hn := h.le
  have c1 := greatestC_H (N := N) (Tn := nI n) hN h hab hb (b - a - 1) 1 N 0 (by omega) (by omega) (by omega)
  unfold fX8_greatestRotation fX5_greatest
  rw [← q_0, ← q_1] at c1
  rw [partOk N hab hb hn, bx_r, c1, bn_s]
theorem an_rotations (hN : 100 ≤ N) (h : Rp n w f) {a b : Nat} (hab : a < b) (hb : b ≤ n) (Ba : Nat → Int32) : ∃ g, fX8_rotations N (nI n) f Ba (nI a) (nI b) = some (.inr (nI (rt w a b), g)) := by
  obtain ⟨g, g1⟩ := rootC_nI (Tn := nI n) hN h hab hb Ba
  unfold fX8_rotations
  rw [partOk N hab hb h.le, bx_r, g1]
  exact ⟨g, rfl⟩
theorem an_rootLength (hN : 100 ≤ N) (h : Rp n w f) {a b : Nat} (hab : a < b) (hb : b ≤ n) (Ba : Nat → Int32) : ∃ g, fX8_rootLength N (nI n) f Ba (nI a) (nI b) = some (.inr (nI (rt w a b), g)) := by
  obtain ⟨g, g1⟩ := rootC_nI (Tn := nI n) hN h hab hb Ba
  unfold fX8_rootLength
  rw [partOk N hab hb h.le, bx_r, g1]
  exact ⟨g, rfl⟩
theorem an_period (hN : 100 ≤ N) (h : Rp n w f) {a b : Nat} (hab : a < b) (hb : b ≤ n) (Ba : Nat → Int32) : ∃ g, fX8_period N (nI n) f Ba (nI a) (nI b) = some (.inr (nI (lp w a b), g)) := by
  obtain ⟨g, g1⟩ := leastPC_nI (Tn := nI n) hN h hab hb Ba
  unfold fX8_period
  rw [partOk N hab hb h.le, bx_r, g1]
  exact ⟨g, rfl⟩
theorem an_border (hN : 100 ≤ N) (h : Rp n w f) {a b : Nat} (hab : a < b) (hb : b ≤ n) (Ba : Nat → Int32) : ∃ l g, fX8_border N (nI n) f Ba (nI a) (nI b) = some (.inr (nI l, g)) ∧ LB w a (b - a) l := by
  obtain ⟨l, g, k1, k2, k3⟩ := longestC_nI (Tn := nI n) hN h hab hb Ba
  unfold fX8_border
  rw [partOk N hab hb h.le, bx_r, k1]
  exact ⟨l, g, rfl, k2⟩
theorem an_byTrying (hN : 100 ≤ N) (h : Rp n w f) {a b : Nat} (hab : a < b) (hb : b ≤ n) : fX8_periodByTrying N (nI n) f (nI a) (nI b) = some (.inr (nI (lp w a b))) := by
  unfold fX8_periodByTrying
  rw [partOk N hab hb h.le, bx_r, firstC_nI hN h hab hb, bn_s]
theorem an_isPeriod (hN : 100 ≤ N) (h : Rp n w f) {a b p : Nat} (hab : a < b) (hb : b ≤ n) (hp1 : 1 ≤ p) (hp : p ≤ b - a) : fX8_isPeriod N (nI n) f (nI a) (nI b) (nI p) = some (.inr (pI (per w a b p))) := by
  have hn := h.le
  unfold fX8_isPeriod
  rw [partOk N hab hb hn, bx_r, q_sub (by omega), q_1, argOk N hp1 hp (by omega), bx_r, keeps_nI hN h hab hb (by omega), bn_s, pI_B, gd_t]
theorem an_periods (hN : 100 ≤ N) (h : Rp n w f) {a b : Nat} (hab : a < b) (hb : b ≤ n) (Ba : Nat → Int32) : ∃ g, fX8_periods N (nI n) f Ba (nI a) (nI b) = some (.inr (nI (ct (per w a b) 1 (b - a)), g)) := by
  have hn := h.le
  obtain ⟨l, g, k1, k2, k3⟩ := longestC_nI (Tn := nI n) hN h hab hb Ba
  have k4 := k2.1
  have hs := nb_step k2
  have hle := ct_le (Bd w a (b - a)) (b - a) 0
  have hnb : nb w a (b - a) ≤ b - a := hle
  have c1 := countAll_H (N := N) (n := n) (Tn := nI n) (Ta := f) (show b - a ≤ 64 by omega) k3 l 1 N (by omega) (by omega) (by omega) (by omega)
  unfold fX8_periods fX0_countAll
  rw [partOk N hab hb hn, bx_r, k1, bn_s, q_1, c1, nb_ct hab, hs]
  exact ⟨g, rfl⟩
theorem an_exponent (hN : 100 ≤ N) (h : Rp n w f) {a b : Nat} (hab : a < b) (hb : b ≤ n) (Ba : Nat → Int32) : ∃ g, fX8_exponent N (nI n) f Ba (nI a) (nI b) = some (.inr (FP.ddiv (FP.i2d (nI (b - a))) (FP.i2d (nI (lp w a b))), g)) := by
  have hn := h.le
  obtain ⟨g, k1⟩ := leastPC_nI (Tn := nI n) hN h hab hb Ba
  have hl := lp_spec (w := w) hab
  unfold fX8_exponent
  rw [partOk N hab hb hn, bx_r, k1, bn_s, q_sub (by omega), quot_nI (by omega) (by omega) (by omega)]
  exact ⟨g, rfl⟩
theorem lb_lt {a m : Nat} : ∀ d k best, k + d ≤ 64 → best < k → lb w a m d k best < 64 := by
  intro d
  induction d with
  | zero => intro k best g3 g4; rw [lb]; omega
  | succ d ih =>
    intro k best g3 g4
    rw [lb]
    by_cases e : 0 ≤ dv w a m k best
    · rw [if_pos e]; exact ih _ _ (by omega) (by omega)
    · rw [if_neg e]; exact ih _ _ (by omega) (by omega)
theorem an_isNecklace (hN : 100 ≤ N) (h : Rp n w f) {a b : Nat} (hab : a < b) (hb : b ≤ n) : fX8_isNecklace N (nI n) f (nI a) (nI b) = some (.inr (pI (lb w a (b - a) (b - a - 1) 1 0 = 0))) := by
  have hn := h.le
  have hlt := lb_lt (w := w) (a := a) (m := b - a) (b - a - 1) 1 0 (by omega) (by omega)
  unfold fX8_isNecklace
  rw [partOk N hab hb hn, bx_r, leastC_nI hN h hab hb, bn_s]
  by_cases e : lb w a (b - a) (b - a - 1) 1 0 = 0
  · rw [pI_t e, if_pos (by rw [e]; rfl)]
    rfl
  · rw [pI_f e, if_neg (by rw [nI_z (by omega)]; exact e)]
    rfl
theorem an_runs (hN : 100 ≤ N) (h : Rp n w f) (Rn : Int32) (A B D : Nat → Int32) : ∃ A2 B2 D2, fX8_runs N (nI n) f Rn A B D = some (nI (RuL w n).length, nI (RuL w n).length, A2, B2, D2) := by
  obtain ⟨A2, B2, D2, g1, g2⟩ := rfind_nI hN h Rn A B D
  unfold fX8_runs fX6_count
  rw [g1]
  exact ⟨A2, B2, D2, rfl⟩
theorem an_runStart (hN : 100 ≤ N) (h : Rp n w f) {i : Nat} (hi : i < (RuL w n).length) (Rn : Int32) (A B D : Nat → Int32) : ∃ A2 B2 D2, fX8_runStart N (nI n) f Rn A B D (nI i) = some (.inr (nI (RuL w n)[i].1, nI (RuL w n).length, A2, B2, D2)) := by
  have hn := h.le
  obtain ⟨A2, B2, D2, g1, g2⟩ := rfind_nI hN h Rn A B D
  have hlen := RuL_len (w := w) (n := n)
  unfold fX8_runStart fX8_findRun fX6_count fX6_start
  rw [g1, bn_s, bn_s, idxOk N hi (by omega), bx_r, bx_r, at_nI (by omega) (by decide), bn_s, bn_s]
  dsimp only
  rw [(g2 i hi).1]
  exact ⟨A2, B2, D2, rfl⟩
theorem an_runEnd (hN : 100 ≤ N) (h : Rp n w f) {i : Nat} (hi : i < (RuL w n).length) (Rn : Int32) (A B D : Nat → Int32) : ∃ A2 B2 D2, fX8_runEnd N (nI n) f Rn A B D (nI i) = some (.inr (nI (rE w n (RuL w n)[i].1 (RuL w n)[i].2), nI (RuL w n).length, A2, B2, D2)) := by
  have hn := h.le
  obtain ⟨A2, B2, D2, g1, g2⟩ := rfind_nI hN h Rn A B D
  have hlen := RuL_len (w := w) (n := n)
  unfold fX8_runEnd fX8_findRun fX6_count fX6_end
  rw [g1, bn_s, bn_s, idxOk N hi (by omega), bx_r, bx_r, at_nI (by omega) (by decide), bn_s, bn_s]
  dsimp only
  rw [(g2 i hi).2.1]
  exact ⟨A2, B2, D2, rfl⟩
theorem an_runPeriod (hN : 100 ≤ N) (h : Rp n w f) {i : Nat} (hi : i < (RuL w n).length) (Rn : Int32) (A B D : Nat → Int32) : ∃ A2 B2 D2, fX8_runPeriod N (nI n) f Rn A B D (nI i) = some (.inr (nI (RuL w n)[i].2, nI (RuL w n).length, A2, B2, D2)) := by
  have hn := h.le
  obtain ⟨A2, B2, D2, g1, g2⟩ := rfind_nI hN h Rn A B D
  have hlen := RuL_len (w := w) (n := n)
  unfold fX8_runPeriod fX8_findRun fX6_count fX6_leastPeriod
  rw [g1, bn_s, bn_s, idxOk N hi (by omega), bx_r, bx_r, at_nI (by omega) (by decide), bn_s, bn_s]
  dsimp only
  rw [(g2 i hi).2.2]
  exact ⟨A2, B2, D2, rfl⟩
theorem an_runsOver (hN : 100 ≤ N) (h : Rp n w f) {p : Nat} (hp : p < n) (Rn : Int32) (A B D : Nat → Int32) : ∃ A2 B2 D2, fX8_runsOver N (nI n) f Rn A B D (nI p) = some (.inr (nI (ovL w n p (RuL w n)), nI (RuL w n).length, A2, B2, D2)) := by
  have hn := h.le
  have hlen := RuL_len (w := w) (n := n)
  obtain ⟨A2, B2, D2, g1, g2⟩ := rfind_nI hN h Rn A B D
  have c1 := ovC_H (N := N) (Ta := f) hn hp g2 (RuL w n) [] N 0 rfl (by omega)
  rw [show (nI ([] : List (Nat × Nat)).length) = (0 : Int32) from rfl, ← q_0, Nat.zero_add] at c1
  unfold fX8_runsOver fX2_count
  rw [bn_s, idxOk N hp (by omega), bx_r, g1, bn_s, c1]
  exact ⟨A2, B2, D2, rfl⟩
theorem an_squares (hN : 100 ≤ N) (h : Rp n w f) (Rn : Int32) (A B D : Nat → Int32) : ∃ A2 B2 D2, fX8_squares N (nI n) f Rn A B D = some (nI (sqL w n (RuL w n)), nI (RuL w n).length, A2, B2, D2) := by
  have hn := h.le
  have hlen := RuL_len (w := w) (n := n)
  obtain ⟨A2, B2, D2, g1, g2⟩ := rfind_nI hN h Rn A B D
  have c1 := sqC_H (N := N) (Ta := f) hn g2 (RuL w n) [] N 0 rfl (by omega)
  rw [show (nI ([] : List (Nat × Nat)).length) = (0 : Int32) from rfl, ← q_0, Nat.zero_add] at c1
  unfold fX8_squares
  rw [g1, bn_s, c1]
  exact ⟨A2, B2, D2, rfl⟩
theorem an_rankOf (hN : 100 ≤ N) (h : Rp n w f) {a : Nat} (ha : a < n) (U : Nat → Int32) : ∃ V, fX8_rankOf N (nI n) f U (nI a) = some (.inr (nI (rk w n 0 a), V)) := by
  have hn := h.le
  obtain ⟨V, h1, h2⟩ := sfind_nI hN h U
  unfold fX8_rankOf fX2_count fX7_rank
  rw [bn_s, idxOk N ha (by omega), bx_r, h1, bn_s, at_nI (by omega) (by decide), bn_s, bn_s, h2.2 a (by omega) ha]
  exact ⟨V, rfl⟩
theorem an_suffixAt (hN : 100 ≤ N) (h : Rp n w f) {r : Nat} (hr : r < n) (U : Nat → Int32) : ∃ i V, fX8_suffixAt N (nI n) f U (nI r) = some (.inr (nI i, V)) ∧ i < n ∧ rk w n 0 i = r := by
  have hn := h.le
  obtain ⟨V, h1, h2⟩ := sfind_nI hN h U
  have hlt : ∀ i, i < n → rk w n 0 i < n := fun i hi => by
    have h3 : rk w n 0 i < ct (fun _ => True) 0 (n - 0) := ct_lt _ _ i (fun _ _ _ _ => trivial) (by omega) (by omega) trivial SL_irr
    have := ct_le (fun _ => True) (n - 0) 0
    omega
  obtain ⟨i, hi, hri⟩ := inj_sur (f := fun i => rk w n 0 i) hr hlt (fun i j hij hj he => by
    have he2 : rk w n 0 i = rk w n 0 j := he
    rcases SL_tot false w (show i ≤ n by omega) (show j ≤ n by omega) (by omega) with q | q
    · have := rk_lt (w := w) (n := n) (q := 0) (by omega) (by omega) q; omega
    · have := rk_lt (w := w) (n := n) (q := 0) (by omega) (by omega) q; omega)
  obtain ⟨s1, s2, s3, s4⟩ := lf_spec (fun p => rk w n 0 p = r) (n - 1) 0
  have hlast : rk w n 0 (lf (fun p => rk w n 0 p = r) 0 (n - 1)) = r := by
    by_cases e : lf (fun p => rk w n 0 p = r) 0 (n - 1) < 0 + (n - 1)
    · exact s4 e
    · have : i = lf (fun p => rk w n 0 p = r) 0 (n - 1) := by
        rcases Nat.lt_or_ge i (lf (fun p => rk w n 0 p = r) 0 (n - 1)) with q | q
        · exact absurd hri (s3 i (by omega) q)
        · omega
      rw [← this]; exact hri
  have c1 := sufC_H (N := N) (Ta := f) hn h2 hr (n - 1) 0 N (by omega) (by omega)
  unfold fX8_suffixAt fX2_count
  rw [bn_s, idxOk N hr (by omega), bx_r, h1, bn_s, q_0, c1]
  exact ⟨_, V, rfl, by omega, hlast⟩
end AN
