/-! p47: suffixes in order, and the runs -/
theorem sufSo_J100 {N n : Nat} {f : Nat → Int32} {y0 : Int32} (Fn : Int32) (Fa Ua : Nat → Int32) (h : y0 = (1 : Int32)) : ∃ fn fa ua, fL_areSuffixesSo_J100 N (nI n) f Fn Fa Ua y0 = some ((1 : Int32), fn, fa, ua) := by
  subst h
  unfold fL_areSuffixesSo_J100
  rw [gB1]
  exact ⟨_, _, _, rfl⟩
theorem sufSo_H {N n F : Nat} {w : Nat → Nat} {f : Nat → Int32} (hN : 100 ≤ N) (h : Rp n w f) (hF : F ≤ n) (h1 : fs w n F = n) (h2 : ∀ k, k < F → fs w n k < n ∧ fs w n k < fs w n (k + 1)) : ∀ d k z (Fn : Int32) (Fa Ua : Nat → Int32), k + d = n → d < z → ∃ fn fa ua, fL_areSuffixesSo_H9 N (nI n) f z Fn Fa Ua (nI n) (1 : Int32) (nI k) = some ((1 : Int32), fn, fa, ua) := by
  have hn := h.le
  intro d
  induction d with
  | zero =>
    intro k z Fn Fa Ua hk hz
    obtain ⟨z, rfl⟩ : ∃ y, z = y + 1 := ⟨z - 1, by omega⟩
    show ∃ fn fa ua, fL_areSuffixesSo_B9 N (nI n) f (fL_areSuffixesSo_H9 N (nI n) f z) Fn Fa Ua (nI n) (1 : Int32) (nI k) = _
    unfold fL_areSuffixesSo_B9
    rw [if_pos ((nI_leI (by omega) (by omega)).mpr (by omega))]
    unfold fL_areSuffixesSo_J69
    rw [if_neg i10']
    by_cases e : n = 0
    · rw [if_pos (by rw [e]; rfl)]
      exact sufSo_J100 Fn Fa Ua rfl
    · have hF1 : 1 ≤ F := by
        rcases Nat.eq_zero_or_pos F with e2 | e2
        · rw [e2] at h1; simp [fs] at h1; omega
        · exact e2
      obtain ⟨i, V, a1, a2, a3⟩ := an_suffixAt hN h (show 0 < n by omega) Ua
      obtain ⟨g1, b1⟩ := an_factors hN h hF h1 h2 Fn Fa
      obtain ⟨g2, b2⟩ := an_factorStart hN h hF h1 h2 (show F - 1 < F by omega) (nI F) g1
      have hi : i = fs w n (F - 1) := fs_last h h1 h2 hF1 a2 (fun s s1 s2 => by
        rcases SL_tot false w (n := n) (i := i) (j := s) (by omega) (by omega) (by omega) with q | q
        · exact q
        · have := rk_lt (w := w) (n := n) (q := 0) (by omega) s1 q
          omega)
      rw [if_neg (by rw [nI_z (by omega)]; exact e), q_0, a1, bx_r, b1, bn_s]
      dsimp only
      rw [q_1, q_sub hF1, b2, bx_r]
      dsimp only
      rw [if_pos (by rw [hi])]
      exact sufSo_J100 _ _ _ rfl
  | succ d ih =>
    intro k z Fn Fa Ua hk hz
    obtain ⟨z, rfl⟩ : ∃ y, z = y + 1 := ⟨z - 1, by omega⟩
    show ∃ fn fa ua, fL_areSuffixesSo_B9 N (nI n) f (fL_areSuffixesSo_H9 N (nI n) f z) Fn Fa Ua (nI n) (1 : Int32) (nI k) = _
    obtain ⟨i, V, a1, a2, a3⟩ := an_suffixAt hN h (show k < n by omega) Ua
    obtain ⟨V2, b1⟩ := an_rankOf hN h a2 V
    unfold fL_areSuffixesSo_B9
    rw [if_neg (by rw [nI_leI (by omega) (by omega)]; omega), if_neg i10', a1, bx_r]
    dsimp only
    rw [b1, bx_r]
    dsimp only
    rw [if_pos (by rw [a3])]
    by_cases e : k = 0
    · rw [if_pos (by rw [e]; rfl)]
      show ∃ fn fa ua, fL_areSuffixesSo_H9 N (nI n) f z Fn Fa V2 (nI n) (1 : Int32) (nI k + 1) = _
      rw [nI_1]
      exact ih (k + 1) z _ _ _ (by omega) (by omega)
    · obtain ⟨i2, V3, c1, c2, c3⟩ := an_suffixAt hN h (show k - 1 < n by omega) V2
      obtain ⟨v, d1, d2⟩ := an_compare (N := N) hN h (a := i2) (b := n) (c := i) (e := n) c2 (Nat.le_refl n) a2 (Nat.le_refl n)
      have hlt : PL false w i2 n i n := (rk_iff (w := w) (n := n) (q := 0) (by omega) c2 (by omega) a2).mp (by omega)
      rw [if_neg (by rw [nI_z (by omega)]; exact e), q_1, q_sub (by omega), c1, bx_r]
      dsimp only
      rw [d1, bx_r, if_neg (v_lt d2 hlt)]
      show ∃ fn fa ua, fL_areSuffixesSo_H9 N (nI n) f z Fn Fa V3 (nI n) (1 : Int32) (nI k + 1) = _
      rw [nI_1]
      exact ih (k + 1) z _ _ _ (by omega) (by omega)
theorem sufSo_nI {N n : Nat} {f g : Nat → Int32} (hN : 100 ≤ N) (h : Two n f g) (Fn : Int32) (Fa Ua : Nat → Int32) : ∃ fn fa ua, fL_areSuffixesSo N (nI n) f Fn Fa Ua = some ((1 : Int32), fn, fa, ua) := by
  have hn := h.le
  obtain ⟨w, hf, hg⟩ := h.rp
  obtain ⟨F, hF, h1, h2⟩ := fs_F hf
  exact sufSo_H hN hf hF h1 h2 n 0 N Fn Fa Ua (by omega) (by omega)
section RUNS
variable {N n : Nat} {w : Nat → Nat} {f : Nat → Int32}
theorem runSo_J226 {y0 : Int32} (Ba : Nat → Int32) (Rn : Int32) (A B D : Nat → Int32) (h : y0 = (1 : Int32)) : ∃ ba rn a b d, fL_areRunsSo_J226 N (nI n) f Ba Rn A B D y0 = some ((1 : Int32), ba, rn, a, b, d) := by
  subst h
  unfold fL_areRunsSo_J226
  rw [gB1]
  exact ⟨_, _, _, _, _, rfl⟩
theorem runSo_J190 (hN : 100 ≤ N) (h : Rp n w f) (Ba : Nat → Int32) (Rn : Int32) (A B D : Nat → Int32) : ∃ ba rn a b d, fL_areRunsSo_J190 N (nI n) f Ba Rn A B D (1 : Int32) = some ((1 : Int32), ba, rn, a, b, d) := by
  have hn := h.le
  have hlen := RuL_len (w := w) (n := n)
  obtain ⟨A1, B1, D1, a1⟩ := an_squares hN h Rn A B D
  obtain ⟨A2, B2, D2, a2⟩ := an_runs hN h (nI (RuL w n).length) A1 B1 D1
  have hsq := sqL_pos (w := w) (n := n) (RuL w n)
  have hbig : sqL w n (RuL w n) < 2 ^ 31 := by
    have hq : ∀ l : List (Nat × Nat), (∀ x, x ∈ l → qR w n x.1 x.2 ≤ 65) → sqL w n l ≤ 65 * l.length := by
      intro l
      induction l with
      | nil => intro _; exact Nat.le_refl 0
      | cons x t ih =>
        intro hx
        have h3 := ih (fun y hy => hx y (List.mem_cons_of_mem _ hy))
        have h4 := hx x List.mem_cons_self
        rw [sqL, List.length_cons]
        omega
    have := hq (RuL w n) (fun x hx => by
      have hR := (rFrom_mem n 0 x hx).2
      have he := (rE_spec (w := w) (n := n) (s := x.1) (p := x.2) (by have := hR.2.1; omega)).2.1
      unfold qR
      omega)
    omega
  unfold fL_areRunsSo_J190
  rw [if_neg i10', a1, bn_s]
  dsimp only
  by_cases e : (RuL w n).length = 0
  · have e2 : sqL w n (RuL w n) = 0 := by omega
    rw [if_pos (by rw [e2]; exact Int32.le_refl _)]
    unfold fL_areRunsSo_J206
    rw [a2, bn_s]
    dsimp only
    rw [if_pos (by rw [e]; exact Int32.le_refl _)]
    unfold fL_areRunsSo_J218
    rw [if_pos rfl]
    exact runSo_J226 _ _ _ _ _ rfl
  · rw [if_neg (by rw [q_0, nI_leI hbig (by omega)]; omega)]
    unfold fL_areRunsSo_J206
    rw [a2, bn_s]
    dsimp only
    rw [if_neg (by rw [q_0, nI_leI (by omega) (by omega)]; omega)]
    unfold fL_areRunsSo_J218
    rw [if_pos rfl]
    exact runSo_J226 _ _ _ _ _ rfl
theorem runSo_J133 (hN : 100 ≤ N) (h : Rp n w f) {k : Nat} (hk : k < (RuL w n).length) (K : (Nat → Int32) → Int32 → (Nat → Int32) → (Nat → Int32) → (Nat → Int32) → Int32 → Int32 → Int32 → Option (Int32 × (Nat → Int32) × Int32 × (Nat → Int32) × (Nat → Int32) × (Nat → Int32))) (hK : ∀ Ba Rn A B D, ∃ ba rn a b d, K Ba Rn A B D (nI n) (1 : Int32) (nI (k + 1)) = some ((1 : Int32), ba, rn, a, b, d)) (Ba : Nat → Int32) (Rn : Int32) (A B D : Nat → Int32) : ∃ ba rn a b d, fL_areRunsSo_J133 N (nI n) f K Ba Rn A B D (nI n) (nI k) (nI (RuL w n)[k].1) (nI (RuL w n)[k].2) (1 : Int32) = some ((1 : Int32), ba, rn, a, b, d) := by
  have hn := h.le
  have hlen := RuL_len (w := w) (n := n)
  have go : ∀ Ba Rn A B D, ∃ ba rn a b d, fL_areRunsSo_J178 N (nI n) f K Ba Rn A B D (nI n) (nI k) = some ((1 : Int32), ba, rn, a, b, d) := by
    intro Ba Rn A B D
    show ∃ ba rn a b d, K Ba Rn A B D (nI n) (1 : Int32) (nI k + 1) = _
    rw [nI_1]
    exact hK Ba Rn A B D
  unfold fL_areRunsSo_J133
  rw [if_neg i10']
  by_cases e : k = 0
  · rw [if_pos (by rw [e]; rfl)]
    exact go _ _ _ _ _
  · obtain ⟨k', rfl⟩ : ∃ y, k = y + 1 := ⟨k - 1, by omega⟩
    have hR := RuL_R (w := w) (n := n) hk
    have hR' := RuL_R (w := w) (n := n) (k := k') (by omega)
    have hs1 : (RuL w n)[k' + 1].1 < 2 ^ 31 := by have := hR.2.1; omega
    have hs2 : (RuL w n)[k'].1 < 2 ^ 31 := by have := hR'.2.1; omega
    have hp1 : (RuL w n)[k' + 1].2 < 2 ^ 31 := by have := hR.2.1; omega
    have hp2 : (RuL w n)[k'].2 < 2 ^ 31 := by have := hR'.2.1; omega
    obtain ⟨A1, B1, D1, a1⟩ := an_runStart hN h (i := k') (by omega) Rn A B D
    obtain ⟨A2, B2, D2, a2⟩ := an_runStart hN h (i := k') (by omega) (nI (RuL w n).length) A1 B1 D1
    obtain ⟨A3, B3, D3, a3⟩ := an_runPeriod hN h (i := k') (by omega) (nI (RuL w n).length) A2 B2 D2
    rw [if_neg (by rw [nI_z (by omega)]; omega), q_1, q_sub (by omega), Nat.add_sub_cancel, a1, bx_r]
    dsimp only
    by_cases c : (RuL w n)[k'].1 < (RuL w n)[k' + 1].1
    · rw [if_pos ((nI_ltI hs2 hs1).mpr c)]
      exact go _ _ _ _ _
    · rw [if_neg (by rw [nI_ltI hs2 hs1]; exact c), a2, bx_r]
      dsimp only
      have hup := RuL_up (w := w) (n := n) (i := k') hk
      rcases hup with q | ⟨q, q2⟩
      · exact absurd q c
      · rw [if_pos (by rw [q]), a3, bx_r]
        dsimp only
        rw [if_neg (by rw [nI_leI hp1 hp2]; omega)]
        exact go _ _ _ _ _
theorem runSo_H (hN : 100 ≤ N) (h : Rp n w f) : ∀ d k z (Ba : Nat → Int32) (Rn : Int32) (A B D : Nat → Int32), k + d = (RuL w n).length → d < z → ∃ ba rn a b d, fL_areRunsSo_H9 N (nI n) f z Ba Rn A B D (nI n) (1 : Int32) (nI k) = some ((1 : Int32), ba, rn, a, b, d) := by
  have hn := h.le
  have hlen := RuL_len (w := w) (n := n)
  intro d
  induction d with
  | zero =>
    intro k z Ba Rn A B D hk hz
    obtain ⟨z, rfl⟩ : ∃ y, z = y + 1 := ⟨z - 1, by omega⟩
    show ∃ ba rn a b d, fL_areRunsSo_B9 N (nI n) f (fL_areRunsSo_H9 N (nI n) f z) Ba Rn A B D (nI n) (1 : Int32) (nI k) = _
    obtain ⟨A1, B1, D1, a1⟩ := an_runs hN h Rn A B D
    unfold fL_areRunsSo_B9
    rw [a1, bn_s]
    dsimp only
    rw [if_pos ((nI_leI (by omega) (by omega)).mpr (by omega))]
    exact runSo_J190 hN h _ _ _ _ _
  | succ d ih =>
    intro k z Ba Rn A B D hk hz
    obtain ⟨z, rfl⟩ : ∃ y, z = y + 1 := ⟨z - 1, by omega⟩
    show ∃ ba rn a b d, fL_areRunsSo_B9 N (nI n) f (fL_areRunsSo_H9 N (nI n) f z) Ba Rn A B D (nI n) (1 : Int32) (nI k) = _
    have hkl : k < (RuL w n).length := by omega
    have hR := RuL_R (w := w) (n := n) hkl
    have hJ := fun K hK => runSo_J133 (N := N) hN h hkl K hK
    have hmem : (RuL w n)[k] ∈ RuL w n := List.getElem_mem hkl
    obtain ⟨A1, B1, D1, a1⟩ := an_runs hN h Rn A B D
    obtain ⟨A2, B2, D2, a2⟩ := an_runStart hN h hkl (nI (RuL w n).length) A1 B1 D1
    obtain ⟨A3, B3, D3, a3⟩ := an_runEnd hN h hkl (nI (RuL w n).length) A2 B2 D2
    obtain ⟨A4, B4, D4, a4⟩ := an_runPeriod hN h hkl (nI (RuL w n).length) A3 B3 D3
    generalize (RuL w n)[k] = x at hR hJ hmem a2 a3 a4
    obtain ⟨s, p⟩ := x
    dsimp only at hR hJ a2 a3 a4
    obtain ⟨e1, e2, e3, e4⟩ := rE_spec (w := w) (n := n) (s := s) (p := p) (by have := hR.2.1; omega)
    have hov1 := ovL_pos (w := w) (n := n) (p := s) (x := (s, p)) (Nat.le_refl s) (show s < rE w n s p by have := hR.1; omega) _ hmem
    have hov2 := ovL_pos (w := w) (n := n) (p := rE w n s p - 1) (x := (s, p)) (show s ≤ rE w n s p - 1 by have := hR.1; omega) (show rE w n s p - 1 < rE w n s p by have := hR.1; omega) _ hmem
    have hl := run_left hR
    have hr := run_right hR
    obtain ⟨p1, p2, p3, p4, p5⟩ := hR
    generalize rE w n s p = e at e1 e2 e3 e4 hov1 hov2 hl hr p3 p5 a3
    obtain ⟨Ba2, b1⟩ := an_period hN h (show s < e by omega) e2 Ba
    have hovb : ∀ q, ovL w n q (RuL w n) < 2 ^ 31 := by
      intro q
      have : ∀ l : List (Nat × Nat), ovL w n q l ≤ l.length := by
        intro l
        induction l with
        | nil => exact Nat.le_refl 0
        | cons y t ih2 =>
          rw [ovL, List.length_cons]
          by_cases c : y.1 ≤ q ∧ q < rE w n y.1 y.2
          · rw [if_pos c]; omega
          · rw [if_neg c]; omega
      have := this (RuL w n)
      omega
    have J108 : ∀ Ba Rn A B D, ∃ ba rn a b d, fL_areRunsSo_J108 N (nI n) f (fL_areRunsSo_H9 N (nI n) f z) Ba Rn A B D (nI n) (nI k) (nI s) (nI e) (nI p) = some ((1 : Int32), ba, rn, a, b, d) := by
      intro Ba Rn A B D
      obtain ⟨C1, C2, C3, c1⟩ := an_runsOver hN h (show s < n by omega) Rn A B D
      obtain ⟨C4, C5, C6, c2⟩ := an_runsOver hN h (show e - 1 < n by omega) (nI (RuL w n).length) C1 C2 C3
      unfold fL_areRunsSo_J108
      rw [c1, bx_r]
      dsimp only
      rw [if_neg (by rw [q_0, nI_leI (hovb _) (by omega)]; omega), q_1, q_sub (by omega), c2, bx_r]
      dsimp only
      rw [if_neg (by rw [q_0, nI_leI (hovb _) (by omega)]; omega)]
      exact hJ _ (fun Ba Rn A B D => ih (k + 1) z Ba Rn A B D (by omega) (by omega)) _ _ _ _ _
    have J87 : ∀ Ba Rn A B D, ∃ ba rn a b d, fL_areRunsSo_J87 N (nI n) f (fL_areRunsSo_H9 N (nI n) f z) Ba Rn A B D (nI n) (nI k) (nI s) (nI e) (nI p) = some ((1 : Int32), ba, rn, a, b, d) := by
      intro Ba Rn A B D
      unfold fL_areRunsSo_J87
      by_cases c : e = n
      · rw [if_pos (by rw [c])]
        exact J108 _ _ _ _ _
      · rw [if_neg (by rw [nI_eq (by omega) (by omega)]; exact c), q_1, nI_add, an_isPeriod hN h (show s < e + 1 by omega) (by omega) p1 (by omega), bx_r, pI_f (hr (by omega)), if_pos n0_0]
        exact J108 _ _ _ _ _
    unfold fL_areRunsSo_B9
    rw [a1, bn_s]
    dsimp only
    rw [if_neg (by rw [nI_leI (by omega) (by omega)]; omega), if_neg i10', a2, bx_r]
    dsimp only
    rw [a3, bx_r]
    dsimp only
    rw [a4, bx_r]
    dsimp only
    rw [b1, bx_r]
    dsimp only
    rw [if_pos (by rw [p5]), q_sub (by omega), mul2, if_neg (by rw [nI_ltI (by omega) (by omega)]; omega)]
    by_cases c : s = 0
    · rw [if_pos (by rw [c]; rfl)]
      exact J87 _ _ _ _ _
    · rw [if_neg (by rw [nI_z (by omega)]; exact c), q_1, q_sub (by omega), an_isPeriod hN h (show s - 1 < e by omega) e2 p1 (by omega), bx_r, pI_f (hl (by omega)), if_pos n0_0]
      exact J87 _ _ _ _ _
end RUNS
theorem runSo_nI {N n : Nat} {f g : Nat → Int32} (hN : 100 ≤ N) (h : Two n f g) (Ba : Nat → Int32) (Rn : Int32) (A B D : Nat → Int32) : ∃ ba rn a b d, fL_areRunsSo N (nI n) f Ba Rn A B D = some ((1 : Int32), ba, rn, a, b, d) := by
  have hn := h.le
  obtain ⟨w, hf, hg⟩ := h.rp
  have hlen := RuL_len (w := w) (n := n)
  exact runSo_H hN hf (RuL w n).length 0 N Ba Rn A B D (by omega) (by omega)
