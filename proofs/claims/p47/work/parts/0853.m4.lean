/-! the checks, on both sides -/
theorem q_5 : (5 : Int32) = nI 5 := rfl
theorem i_lt0 {x : Int32} : x < 0 ∨ ∃ a : Nat, a < 2 ^ 31 ∧ x = nI a := by
  by_cases h : x < 0
  · exact Or.inl h
  · exact Or.inr (nI_of h)
theorem n1_0 : ¬ (nI 1 = 0) := by decide
theorem n0_0 : nI 0 = 0 := rfl
theorem room_yes {N n m : Nat} (h : n + m ≤ 64) : fX8_checkRoom N (nI n) (nI m) = some (.inr ()) := by
  show (if nI n + nI m ≤ nI 64 then _ else _) = _
  rw [nI_add, if_pos ((nI_leI (by omega) (by omega)).mpr h)]
theorem room_no {N n m : Nat} (h : ¬ n + m ≤ 64) (hm : n + m < 2 ^ 31) : fX8_checkRoom N (nI n) (nI m) = some (.inl 2) := by
  show (if nI n + nI m ≤ nI 64 then _ else _) = _
  rw [nI_add, if_neg (by rw [nI_leI (by omega) (by omega)]; exact h)]
/-- one text, held by two rows -/
def Two (n : Nat) (f g : Nat → Int32) : Prop := n ≤ 64 ∧ ∀ j, j < n → g j = f j ∧ ∃ v, v ≤ 25 ∧ f j = nI v
theorem Two.rp {n : Nat} {f g : Nat → Int32} (h : Two n f g) : ∃ w, Rp n w f ∧ Rp n w g := by
  refine ⟨fun j => (f j).toNatClampNeg, ⟨h.1, fun j hj => ?_⟩, ⟨h.1, fun j hj => ?_⟩⟩
  · obtain ⟨h1, v, h2, h3⟩ := h.2 j hj
    show f j = nI (f j).toNatClampNeg ∧ (f j).toNatClampNeg ≤ 25
    rw [h3, nI_clamp (by omega)]
    exact ⟨rfl, h2⟩
  · obtain ⟨h1, v, h2, h3⟩ := h.2 j hj
    show g j = nI (f j).toNatClampNeg ∧ (f j).toNatClampNeg ≤ 25
    rw [h1, h3, nI_clamp (by omega)]
    exact ⟨rfl, h2⟩
/-! edits, on both sides -/
theorem Two.le {n : Nat} {f g : Nat → Int32} (h : Two n f g) : n ≤ 64 := h.1
theorem Two.eq {n : Nat} {f g : Nat → Int32} (h : Two n f g) {j : Nat} (hj : j < n) : g j = f j := (h.2 j hj).1
/-- what opening a place does to a row -/
def OpenAt (n a : Nat) (v : Int32) (f g : Nat → Int32) : Prop := g a = v ∧ (∀ j, j < a → g j = f j) ∧ ∀ j, a < j → j ≤ n → g j = f (j - 1)
theorem two_open {n a l : Nat} {f g f2 g2 : Nat → Int32} (h : Two n f g) (hn : n < 64) (ha : a ≤ n) (hl : l ≤ 25) (h1 : OpenAt n a (nI l) f f2) (h2 : OpenAt n a (nI l) g g2) : Two (n + 1) f2 g2 := by
  refine ⟨by omega, fun j hj => ?_⟩
  rcases Nat.lt_trichotomy j a with h3 | h3 | h3
  · rw [h1.2.1 j h3, h2.2.1 j h3]; exact h.2 j (by omega)
  · rw [h3, h1.1, h2.1]; exact ⟨rfl, l, hl, rfl⟩
  · rw [h1.2.2 j h3 (by omega), h2.2.2 j h3 (by omega)]; exact h.2 (j - 1) (by omega)
theorem open_H {N n a : Nat} {v : Int32} (hn : n < 64) (ha : a ≤ n) : ∀ d k z (f : Nat → Int32), a + d = k → k ≤ n → d < z → ∃ g, fX2_open_H14 N z (nI n) f (nI a) v (nI k) = some (nI (n + 1), g) ∧ g a = v ∧ (∀ j, j < a → g j = f j) ∧ (∀ j, a < j → j ≤ k → g j = f (j - 1)) ∧ ∀ j, k < j → g j = f j := by
  intro d
  induction d with
  | zero =>
    intro k z f hk hkn hz
    obtain ⟨z, rfl⟩ : ∃ y, z = y + 1 := ⟨z - 1, by omega⟩
    refine ⟨upd f a v, ?_, pk_us, fun j hj => pk_un (by omega), fun j h1 h2 => by omega, fun j hj => pk_un (by omega)⟩
    show fX2_open_B14 N _ _ _ _ _ _ = _
    unfold fX2_open_B14
    rw [if_pos (by rw [nI_leI (by omega) (by omega)]; omega)]
    unfold fX2_open_J43
    rw [put_nI (by omega) (by decide), bn_s, nI_1]
    rfl
  | succ d ih =>
    intro k z f hk hkn hz
    obtain ⟨z, rfl⟩ : ∃ y, z = y + 1 := ⟨z - 1, by omega⟩
    obtain ⟨g, h1, h2, h3, h4, h5⟩ := ih (k - 1) z (upd f k (f (k - 1))) (by omega) (by omega) (by omega)
    refine ⟨g, ?_, h2, fun j hj => (h3 j hj).trans (pk_un (by omega)), fun j g1 g2 => ?_, fun j hj => (h5 j (by omega)).trans (pk_un (by omega))⟩
    · show fX2_open_B14 N _ _ _ _ _ _ = _
      unfold fX2_open_B14
      rw [if_neg (by rw [nI_leI (by omega) (by omega)]; omega), q_1, q_sub (by omega), at_nI (by omega) (by decide), bn_s, put_nI (by omega) (by decide), bn_s]
      show fX2_open_H14 N z _ _ _ _ (nI k + -nI 1) = _
      rw [q_m1 (by omega)]
      exact h1
    · by_cases e : j = k
      · rw [e, h5 k (by omega)]; exact pk_us
      · rw [h4 j g1 (by omega)]; exact pk_un (by omega)
theorem open_nI {N n a : Nat} {v : Int32} (hN : 100 ≤ N) (hn : n < 64) (ha : a ≤ n) (f : Nat → Int32) : ∃ g, fX2_open N (nI n) f (nI a) v = some (nI (n + 1), g) ∧ OpenAt n a v f g := by
  obtain ⟨g, h1, h2, h3, h4, h5⟩ := open_H (N := N) (v := v) hn ha (n - a) n N f (by omega) (by omega) (by omega)
  refine ⟨g, ?_, h2, h3, h4⟩
  unfold fX2_open
  rw [if_neg (by rw [q_64, nI_leI (by omega) (by omega)]; omega)]
  exact h1
theorem push_nI {N n : Nat} {v : Int32} (hN : 100 ≤ N) (hn : n < 64) (f : Nat → Int32) : ∃ g, fX2_push N (nI n) f v = some (nI (n + 1), g) ∧ OpenAt n n v f g := by
  obtain ⟨g, h1, h2⟩ := open_nI (v := v) hN hn (Nat.le_refl n) f
  refine ⟨g, ?_, h2⟩
  unfold fX2_push
  rw [h1, bn_s]
theorem openAt_upd {n : Nat} {v : Int32} {f : Nat → Int32} : OpenAt n n v f (upd f n v) := ⟨pk_us, fun j hj => pk_un (by omega), fun j h1 h2 => by omega⟩
/-- what the law sees: the answers agree and the texts stay one -/
def TwoR (n : Int32) (f : Nat → Int32) (mn : Int32) (g : Nat → Int32) : Prop := ∃ k, n = nI k ∧ mn = nI k ∧ Two k f g
theorem oa_1 (Oa : Nat → Int64) (v : Int64) : (vp_updL Oa ((0 : Int32)).toNatClampNeg v) 0 = v := pk_uLs
theorem inb01 : inb (0 : Int32) 1 = true := by decide
theorem i10 : ¬ ((1 : Int32) = 0) := by decide
theorem q_inb' {a : Nat} (h : a < 64) : inb (nI a) 64 = true := q_inb h (by decide)
theorem take_H {N n : Nat} {v : Int32} (hn : n ≤ 64) (hn1 : 1 ≤ n) : ∀ d k z (f : Nat → Int32), k + d = n → 1 ≤ k → d < z → ∃ g, fX2_take_H13 N z (nI n) f v (nI k) = some (v, nI (n - 1), g) ∧ (∀ j, j + 1 < k → g j = f j) ∧ (∀ j, k ≤ j + 1 → j + 1 < n → g j = f (j + 1)) := by
  intro d
  induction d with
  | zero =>
    intro k z f hk hk1 hz
    obtain ⟨z, rfl⟩ : ∃ y, z = y + 1 := ⟨z - 1, by omega⟩
    refine ⟨f, ?_, fun j hj => rfl, fun j h1 h2 => by omega⟩
    show fX2_take_B13 N _ _ _ _ _ = _
    unfold fX2_take_B13
    rw [if_pos (by rw [nI_leI (by omega) (by omega)]; omega)]
    unfold fX2_take_J45
    rw [q_1, q_sub hn1]
  | succ d ih =>
    intro k z f hk hk1 hz
    obtain ⟨z, rfl⟩ : ∃ y, z = y + 1 := ⟨z - 1, by omega⟩
    obtain ⟨g, h1, h2, h3⟩ := ih (k + 1) z (upd f (k - 1) (f k)) (by omega) (by omega) (by omega)
    refine ⟨g, ?_, fun j hj => (h2 j (by omega)).trans (pk_un (by omega)), fun j g1 g2 => ?_⟩
    · show fX2_take_B13 N _ _ _ _ _ = _
      unfold fX2_take_B13
      rw [if_neg (by rw [nI_leI (by omega) (by omega)]; omega), at_nI (by omega) (by decide), bn_s, q_1, q_sub (by omega), put_nI (by omega) (by decide), bn_s, nI_add]
      exact h1
    · by_cases e : j + 1 = k
      · rw [h2 j (by omega), show j = k - 1 by omega, pk_us]; congr 1; omega
      · rw [h3 j (by omega) g2]; exact pk_un (by omega)
theorem half_div {a b : Nat} (h : b - a ≤ 64) (hab : a ≤ b) : (nI b - nI a) / (2 : Int32) = nI ((b - a) / 2) := by
  rw [q_sub hab, q_2, q_div (by omega) (by omega) (by omega)]
theorem turn_H {N : Nat} {Tn : Int32} {a b : Nat} (hab : a ≤ b) (hb : b ≤ 64) (f : Nat → Int32) : ∀ d k z (g : Nat → Int32), k + d = (b - a) / 2 → d < z → (∀ i, i < k → g (a + i) = f (b - 1 - i) ∧ g (b - 1 - i) = f (a + i)) → (∀ j, (∀ i, i < k → j ≠ a + i ∧ j ≠ b - 1 - i) → g j = f j) → ∃ g2, fX2_turn_H2 N Tn z g (nI a) (nI b) (nI k) = some g2 ∧ (∀ i, i < (b - a) / 2 → g2 (a + i) = f (b - 1 - i) ∧ g2 (b - 1 - i) = f (a + i)) ∧ (∀ j, (∀ i, i < (b - a) / 2 → j ≠ a + i ∧ j ≠ b - 1 - i) → g2 j = f j) := by
  intro d
  induction d with
  | zero =>
    intro k z g hk hz h1 h2
    obtain ⟨z, rfl⟩ : ∃ y, z = y + 1 := ⟨z - 1, by omega⟩
    have hk2 : k = (b - a) / 2 := by omega
    rw [← hk2]
    refine ⟨g, ?_, h1, h2⟩
    show fX2_turn_B2 N _ _ _ _ _ _ = _
    unfold fX2_turn_B2
    rw [show nz (2 : Int32) = true by decide, gd_t, half_div (by omega) hab, if_pos (by rw [nI_leI (by omega) (by omega)]; omega)]
    rfl
  | succ d ih =>
    intro k z g hk hz h1 h2
    obtain ⟨z, rfl⟩ : ∃ y, z = y + 1 := ⟨z - 1, by omega⟩
    have e1 : g (a + k) = f (a + k) := h2 _ (fun i hi => by omega)
    have e2 : g (b - 1 - k) = f (b - 1 - k) := h2 _ (fun i hi => by omega)
    obtain ⟨g2, h3, h4⟩ := ih (k + 1) z (upd (upd g (a + k) (g (b - 1 - k))) (b - 1 - k) (g (a + k))) (by omega) (by omega) (fun i hi => by
      by_cases e : i = k
      · rw [e, pk_us, pk_un (by omega), pk_us]; exact ⟨e2, e1⟩
      · rw [pk_un (by omega), pk_un (by omega), pk_un (by omega), pk_un (by omega)]; exact h1 i (by omega)) (fun j hj => by
      have := hj k (by omega)
      rw [pk_un (by omega), pk_un (by omega)]
      exact h2 j (fun i hi => hj i (by omega)))
    refine ⟨g2, ?_, h4⟩
    show fX2_turn_B2 N _ _ _ _ _ _ = _
    unfold fX2_turn_B2
    rw [show nz (2 : Int32) = true by decide, gd_t, half_div (by omega) hab, if_neg (by rw [nI_leI (by omega) (by omega)]; omega), q_1, q_sub (by omega), q_sub (by omega), nI_add, at_nI (by omega) (by decide), bn_s, at_nI (by omega) (by decide), bn_s, put_nI (by omega) (by decide), bn_s, put_nI (by omega) (by decide), bn_s, nI_add]
    exact h3
theorem turn_nI {N : Nat} {Tn : Int32} {a b : Nat} (hN : 100 ≤ N) (hab : a ≤ b) (hb : b ≤ 64) (f : Nat → Int32) : ∃ g, fX2_turn N Tn f (nI a) (nI b) = some g ∧ (∀ i, i < b - a → g (a + i) = f (b - 1 - i)) ∧ (∀ j, j < a ∨ b ≤ j → g j = f j) := by
  obtain ⟨g, h1, h2, h3⟩ := turn_H (N := N) (Tn := Tn) hab hb f _ 0 N f (Nat.zero_add _) (by omega) (fun i hi => by omega) (fun j hj => rfl)
  refine ⟨g, h1, fun i hi => ?_, fun j hj => h3 j (fun i hi => by omega)⟩
  by_cases e : i < (b - a) / 2
  · exact (h2 i e).1
  · by_cases e2 : b - 1 - (a + i) < (b - a) / 2
    · have := (h2 _ e2).2
      rw [show b - 1 - (b - 1 - (a + i)) = a + i by omega, show a + (b - 1 - (a + i)) = b - 1 - i by omega] at this
      exact this
    · have e3 : a + i = b - 1 - i := by omega
      rw [← e3]
      exact h3 (a + i) (fun i hi => by omega)
theorem appC_H {N n a b : Nat} (hN : 100 ≤ N) (hb : b ≤ n) (hr : n + (b - a) ≤ 64) (f : Nat → Int32) : ∀ d k z (g : Nat → Int32), k + d = b → a ≤ k → d < z → (∀ j, j < n → g j = f j) → (∀ j, j < k - a → g (n + j) = f (a + j)) → ∃ g2, fX8_appendPart_H15 N z (nI (n + (k - a))) g (nI b) (nI k) = some (.inr (nI (n + (b - a)), nI (n + (b - a)), g2)) ∧ (∀ j, j < n → g2 j = f j) ∧ (∀ j, j < b - a → g2 (n + j) = f (a + j)) := by
  intro d
  induction d with
  | zero =>
    intro k z g hk hak hz h1 h2
    obtain ⟨z, rfl⟩ : ∃ y, z = y + 1 := ⟨z - 1, by omega⟩
    have : k = b := by omega
    subst this
    refine ⟨g, ?_, h1, h2⟩
    show fX8_appendPart_B15 N _ _ _ _ _ = _
    unfold fX8_appendPart_B15
    rw [if_pos (by rw [nI_leI (by omega) (by omega)]; omega)]
    rfl
  | succ d ih =>
    intro k z g hk hak hz h1 h2
    obtain ⟨z, rfl⟩ : ∃ y, z = y + 1 := ⟨z - 1, by omega⟩
    obtain ⟨g1, p1, p2, p3, p4⟩ := push_nI (N := N) (n := n + (k - a)) (v := g k) hN (by omega) g
    obtain ⟨g2, h3, h4, h5⟩ := ih (k + 1) z g1 (by omega) (by omega) (by omega) (fun j hj => (p3 j (by omega)).trans (h1 j hj)) (fun j hj => by
      by_cases e : j = k - a
      · rw [e, p2, h1 k (by omega)]; congr 1; omega
      · rw [p3 _ (by omega)]; exact h2 j (by omega))
    refine ⟨g2, ?_, h4, h5⟩
    show fX8_appendPart_B15 N _ _ _ _ _ = _
    unfold fX8_appendPart_B15
    rw [if_neg (by rw [nI_leI (by omega) (by omega)]; omega), letter_nI (by omega), bn_s, p1, bn_s, nI_1]
    rw [show n + (k + 1 - a) = n + (k - a) + 1 by omega] at h3
    exact h3
theorem cmp_nI {N x y : Nat} (hx : x < 2 ^ 31) (hy : y < 2 ^ 31) : fJ6_compare_7cf53 N (nI x) (nI y) = some (if x < y then (-1 : Int32) else if y < x then (1 : Int32) else (0 : Int32)) := by
  unfold fJ6_compare_7cf53
  by_cases h : y ≤ x
  · rw [if_pos ((nI_leI hy hx).mpr h), if_neg (show ¬ x < y by omega)]
    by_cases e : x = y
    · rw [if_pos (by rw [e]), if_neg (by omega)]; rfl
    · rw [if_neg (by rw [nI_eq hx hy]; exact e), if_pos (by omega)]; rfl
  · rw [if_neg (by rw [nI_leI hy hx]; exact h), if_pos (by omega)]; rfl
theorem stdC_H {N n b : Nat} {Tn : Int32} {w : Nat → Nat} {Ta : Nat → Int32} (hN : 100 ≤ N) (h : Rp n w Ta) (hb : b ≤ n) : ∀ d s z, s + d + 1 = b → d < z → fX8_standardFactor_H39 N Tn Ta z (nI b) (nI s) = some (.inr (nI (lf (fun s => LY false w s b) s d))) := by
  have hn := h.le
  intro d
  induction d with
  | zero =>
    intro s z hs hz
    obtain ⟨z, rfl⟩ : ∃ y, z = y + 1 := ⟨z - 1, by omega⟩
    show fX8_standardFactor_B39 N _ _ _ _ _ = _
    unfold fX8_standardFactor_B39
    rw [q_1, q_sub (by omega), if_pos (by rw [nI_leI (by omega) (by omega)]; omega), lf_0]
    rfl
  | succ d ih =>
    intro s z hs hz
    obtain ⟨z, rfl⟩ : ∃ y, z = y + 1 := ⟨z - 1, by omega⟩
    show fX8_standardFactor_B39 N _ _ _ _ _ = _
    unfold fX8_standardFactor_B39
    rw [q_1, q_sub (by omega), if_neg (by rw [nI_leI (by omega) (by omega)]; omega), isOneFactor_nI hN h (by omega) hb, bn_s]
    by_cases e : LY false w s b
    · rw [if_neg (by rw [pI_z]; exact fun hh => hh e), lf_t (P := fun s => LY false w s b) e]
      rfl
    · rw [if_pos (by rw [pI_z]; exact e), lf_f (P := fun s => LY false w s b) e, nI_add]
      exact ih (s + 1) z (by omega) (by omega)
