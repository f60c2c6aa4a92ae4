/-! p47: the law's questions, each answered true -/
theorem len_nI {N : Nat} {Tn : Int32} : fX8_length N Tn = some Tn := rfl
theorem i10' : ¬ ((1 : Int32) = 0) := by decide
theorem gB1 {β : Type} {o : Option β} : gd (isB (1 : Int32)) o = o := by
  rw [show isB (1 : Int32) = true by decide]; rfl
theorem v_ge {v : Int32} {p : Prop} (h : v < 0 ↔ p) (hp : ¬ p) : 0 ≤ v := by
  have : ¬ v < 0 := fun hh => hp (h.mp hh)
  rw [Int32.lt_iff_toInt_lt] at this
  rw [Int32.le_iff_toInt_le]
  omega
theorem v_lt {v : Int32} {p : Prop} (h : v < 0 ↔ p) (hp : p) : ¬ 0 ≤ v := by
  have := h.mpr hp
  rw [Int32.lt_iff_toInt_lt] at this
  rw [Int32.le_iff_toInt_le]
  omega
section ALIKE
variable {N n : Nat} {w : Nat → Nat} {f g : Nat → Int32}
theorem alike_H (hf : Rp n w f) (hg : Rp n w g) : ∀ d k z, k + d = n → d < z → ∀ (Fn : Int32) (Fa : Nat → Int32) (Rn : Int32) (Ra Rb Rd : Nat → Int32) (QFn : Int32) (QFa : Nat → Int32) (QRn : Int32) (QRa QRb QRd : Nat → Int32), fL_areAlike_H41 N (nI n) f (nI n) g z Fn Fa Rn Ra Rb Rd QFn QFa QRn QRa QRb QRd (1 : Int32) (nI k) = some ((1 : Int32), Fn, Fa, Rn, Ra, Rb, Rd, QFn, QFa, QRn, QRa, QRb, QRd) := by
  have hn := hf.le
  intro d
  induction d with
  | zero =>
    intro k z hk hz Fn Fa Rn Ra Rb Rd QFn QFa QRn QRa QRb QRd
    obtain ⟨z, rfl⟩ : ∃ y, z = y + 1 := ⟨z - 1, by omega⟩
    show fL_areAlike_B41 N (nI n) f (nI n) g (fL_areAlike_H41 N (nI n) f (nI n) g z) Fn Fa Rn Ra Rb Rd QFn QFa QRn QRa QRb QRd (1 : Int32) (nI k) = _
    unfold fL_areAlike_B41
    rw [len_nI, bn_s, if_pos ((nI_leI (by omega) (by omega)).mpr (by omega))]
    unfold fL_areAlike_J78
    rw [gB1]
  | succ d ih =>
    intro k z hk hz Fn Fa Rn Ra Rb Rd QFn QFa QRn QRa QRb QRd
    obtain ⟨z, rfl⟩ : ∃ y, z = y + 1 := ⟨z - 1, by omega⟩
    show fL_areAlike_B41 N (nI n) f (nI n) g (fL_areAlike_H41 N (nI n) f (nI n) g z) Fn Fa Rn Ra Rb Rd QFn QFa QRn QRa QRb QRd (1 : Int32) (nI k) = _
    unfold fL_areAlike_B41
    rw [len_nI, bn_s, if_neg (by rw [nI_leI (by omega) (by omega)]; omega), if_neg i10', an_letterAt hf (by omega), bx_r, an_letterAt hg (by omega), bx_r, if_pos rfl]
    unfold fL_areAlike_J71
    rw [nI_1]
    exact ih (k + 1) z (by omega) (by omega) Fn Fa Rn Ra Rb Rd QFn QFa QRn QRa QRb QRd
end ALIKE
theorem alike_nI {N n : Nat} {f g : Nat → Int32} (hN : 100 ≤ N) (h : Two n f g) (Fn : Int32) (Fa : Nat → Int32) (Rn : Int32) (Ra Rb Rd : Nat → Int32) (QFn : Int32) (QFa : Nat → Int32) (QRn : Int32) (QRa QRb QRd : Nat → Int32) : ∃ Fn' Fa' Rn' Ra' Rb' Rd' QFn' QFa' QRn' QRa' QRb' QRd', fL_areAlike N (nI n) f Fn Fa Rn Ra Rb Rd (nI n) g QFn QFa QRn QRa QRb QRd = some ((1 : Int32), Fn', Fa', Rn', Ra', Rb', Rd', QFn', QFa', QRn', QRa', QRb', QRd') := by
  have hn := h.le
  obtain ⟨w, hf, hg⟩ := h.rp
  obtain ⟨F, hF, h1, h2⟩ := fs_F hf
  obtain ⟨g1, a1⟩ := an_factors hN hf hF h1 h2 Fn Fa
  obtain ⟨g2, a2⟩ := an_factors hN hg hF h1 h2 QFn QFa
  obtain ⟨A, B, D, r1⟩ := an_runs hN hf Rn Ra Rb Rd
  obtain ⟨A2, B2, D2, r2⟩ := an_runs hN hg QRn QRa QRb QRd
  have e : fL_areAlike N (nI n) f Fn Fa Rn Ra Rb Rd (nI n) g QFn QFa QRn QRa QRb QRd = fL_areAlike_H41 N (nI n) f (nI n) g N (nI F) g1 (nI (RuL w n).length) A B D (nI F) g2 (nI (RuL w n).length) A2 B2 D2 (1 : Int32) (0 : Int32) := by
    unfold fL_areAlike
    rw [len_nI, bn_s, bn_s, if_pos rfl, a1, bn_s, a2, bn_s, if_pos rfl, r1, bn_s, r2, bn_s, if_pos rfl]
    rfl
  rw [e, q_0, alike_H hf hg n 0 N (by omega) (by omega)]
  exact ⟨_, _, _, _, _, _, _, _, _, _, _, _, rfl⟩
theorem facSo_H {N n F : Nat} {w : Nat → Nat} {f : Nat → Int32} (hN : 100 ≤ N) (h : Rp n w f) (hF : F ≤ n) (h1 : fs w n F = n) (h2 : ∀ k, k < F → fs w n k < n ∧ fs w n k < fs w n (k + 1)) : ∀ d k z (Fn : Int32) (Fa : Nat → Int32) (x2 : Int32), k + d = F → d < z → (0 < k → x2 = nI (fs w n (k - 1))) → ∃ fn fa, fL_areFactorsSo_H6 N (nI n) f z Fn Fa (nI (fs w n k)) x2 (nI k) = some ((1 : Int32), fn, fa) := by
  have hn := h.le
  intro d
  induction d with
  | zero =>
    intro k z Fn Fa x2 hk hz hx
    obtain ⟨z, rfl⟩ : ∃ y, z = y + 1 := ⟨z - 1, by omega⟩
    show ∃ fn fa, fL_areFactorsSo_B6 N (nI n) f (fL_areFactorsSo_H6 N (nI n) f z) Fn Fa (nI (fs w n k)) x2 (nI k) = _
    have hkF : k = F := by omega
    subst hkF
    obtain ⟨g1, a1⟩ := an_factors hN h hF h1 h2 Fn Fa
    unfold fL_areFactorsSo_B6
    rw [a1, bn_s]
    dsimp only
    rw [if_pos (Int32.le_refl _)]
    unfold fL_areFactorsSo_J117
    rw [len_nI, bn_s, if_pos (by rw [h1])]
    unfold fL_areFactorsSo_J130
    rw [gB1]
    exact ⟨_, _, rfl⟩
  | succ d ih =>
    intro k z Fn Fa x2 hk hz hx
    obtain ⟨z, rfl⟩ : ∃ y, z = y + 1 := ⟨z - 1, by omega⟩
    show ∃ fn fa, fL_areFactorsSo_B6 N (nI n) f (fL_areFactorsSo_H6 N (nI n) f z) Fn Fa (nI (fs w n k)) x2 (nI k) = _
    have hkF : k < F := by omega
    have b1 := h2 k hkF
    have b2 := fs_le h1 h2 (show k + 1 ≤ F by omega)
    have hfs : fs w n (k + 1) = fs w n k + ll false w (fs w n k) n := rfl
    have hL := fs_LY h b1.1
    obtain ⟨g1, a1⟩ := an_factors hN h hF h1 h2 Fn Fa
    obtain ⟨g2, a2⟩ := an_factorLength hN h hF h1 h2 hkF (nI F) g1
    obtain ⟨g3, a3⟩ := an_factorStart hN h hF h1 h2 hkF (nI F) g2
    obtain ⟨g4, a4⟩ := an_factorOver (p := fs w n k) hN h hF h1 h2 b1.1 (nI F) g3
    obtain ⟨g5, a5⟩ := an_factorOver (p := fs w n (k + 1) - 1) hN h hF h1 h2 (by omega) (nI F) g4
    rw [fs_over h2 hkF (Nat.le_refl _) b1.2] at a4
    rw [fs_over h2 hkF (by omega) (by omega)] at a5
    have hsum : nI (fs w n k) + nI (fs w n (k + 1) - fs w n k) = nI (fs w n (k + 1)) := by
      rw [nI_add]; congr 1; omega
    unfold fL_areFactorsSo_B6
    rw [a1, bn_s]
    dsimp only
    rw [if_neg (by rw [nI_leI (by omega) (by omega)]; omega), a2, bx_r]
    dsimp only
    rw [a3, bx_r]
    dsimp only
    rw [if_pos rfl, if_neg (by rw [q_1, nI_ltI (by omega) (by omega)]; omega), hsum, an_isLyndon hN h b1.2 b2, bx_r, pI_t hL, if_neg n1_0, an_longest hN h b1.1, bx_r, if_pos (by congr 1; omega), a4, bx_r]
    dsimp only
    rw [if_pos rfl, q_1, q_sub (by omega), a5, bx_r]
    dsimp only
    rw [if_pos rfl]
    by_cases e : k = 0
    · rw [if_pos (by rw [e]; exact Int32.le_refl _)]
      unfold fL_areFactorsSo_J104
      rw [hsum, nI_1]
      exact ih (k + 1) z _ _ _ (by omega) (by omega) (fun _ => rfl)
    · rw [if_neg (by rw [q_0, nI_leI (by omega) (by omega)]; omega), hx (by omega)]
      obtain ⟨k', rfl⟩ : ∃ y, k = y + 1 := ⟨k - 1, by omega⟩
      have b3 := h2 k' (by omega)
      obtain ⟨v, c1, c2⟩ := an_compare (N := N) hN h (a := fs w n k') (b := fs w n (k' + 1)) (c := fs w n (k' + 1)) (e := fs w n (k' + 1 + 1)) b3.2 (by omega) b1.2 b2
      rw [show k' + 1 - 1 = k' from rfl, c1, bx_r, if_pos (v_ge c2 (fs_order h h1 h2 hkF))]
      unfold fL_areFactorsSo_J104
      rw [hsum, nI_1]
      exact ih (k' + 1 + 1) z _ _ _ (by omega) (by omega) (fun _ => rfl)
theorem facSo_nI {N n : Nat} {f g : Nat → Int32} (hN : 100 ≤ N) (h : Two n f g) (Fn : Int32) (Fa : Nat → Int32) : ∃ fn fa, fL_areFactorsSo N (nI n) f Fn Fa = some ((1 : Int32), fn, fa) := by
  have hn := h.le
  obtain ⟨w, hf, hg⟩ := h.rp
  obtain ⟨F, hF, h1, h2⟩ := fs_F hf
  exact facSo_H hN hf hF h1 h2 F 0 N Fn Fa (0 : Int32) (by omega) (by omega) (fun h => by omega)
