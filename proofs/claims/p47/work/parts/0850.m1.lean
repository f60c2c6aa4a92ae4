/-! mathematics of the pure functions: basics -/
theorem bn_s {α β : Type} {a : α} {k : α → Option β} : bn (some a) k = k a := rfl
theorem bx_r {α β γ : Type} {b : β} {kx : α → Option γ} {k : β → Option γ} : bx (some (.inr b)) kx k = k b := rfl
theorem bx_l {α β γ : Type} {a : α} {kx : α → Option γ} {k : β → Option γ} : bx (some (.inl a)) kx k = kx a := rfl
theorem gd_t {β : Type} {o : Option β} : gd true o = o := rfl
theorem q_0 : (0 : Int32) = nI 0 := rfl
theorem q_1 : (1 : Int32) = nI 1 := rfl
theorem q_2 : (2 : Int32) = nI 2 := rfl
theorem q_3 : (3 : Int32) = nI 3 := rfl
theorem q_4 : (4 : Int32) = nI 4 := rfl
theorem q_6 : (6 : Int32) = nI 6 := rfl
theorem q_7 : (7 : Int32) = nI 7 := rfl
theorem q_8 : (8 : Int32) = nI 8 := rfl
theorem q_10 : (10 : Int32) = nI 10 := rfl
theorem q_12 : (12 : Int32) = nI 12 := rfl
theorem q_25 : (25 : Int32) = nI 25 := rfl
theorem q_63 : (63 : Int32) = nI 63 := rfl
theorem q_64 : (64 : Int32) = nI 64 := rfl
theorem q_ofNat (n : Nat) : Int32.ofNat n = nI n := rfl
theorem q_m1 {a : Nat} (h : 1 ≤ a) : nI a + -nI 1 = nI (a - 1) := by
  obtain ⟨b, rfl⟩ : ∃ b, a = b + 1 := ⟨a - 1, by omega⟩
  exact pk_m1 b
theorem q_sub {a b : Nat} (h : b ≤ a) : nI a - nI b = nI (a - b) := pk_sub h
theorem q_rem (a b : Nat) : nI a - nI (a / b * b) = nI (a % b) := by
  rw [pk_sub (Nat.div_mul_le_self a b)]
  congr 1
  have := Nat.div_add_mod a b
  rw [Nat.mul_comm] at this
  omega
theorem q_div {a d : Nat} (ha : a < 2 ^ 31) (h0 : 0 < d) (hd : d < 2 ^ 31) : nI a / nI d = nI (a / d) := pk_div ha h0 hd
theorem q_inb {a n : Nat} (h : a < n) (hn : n < 2 ^ 31) : inb (nI a) n = true := by
  refine decide_eq_true ?_
  rw [nI_toInt (by omega)]
  omega
theorem q_nz {b : Nat} (h : 0 < b) (hb : b < 2 ^ 31) : nz (nI b) = true := decide_eq_true (by rw [show (0 : Int32) = nI 0 from rfl, nI_eq hb (by decide)]; omega)
theorem q_b0 : isB (nI 0) = true := by decide
theorem q_b1 : isB (nI 1) = true := by decide
/-- a truth as 0 or 1 -/
noncomputable def pI (p : Prop) : Int32 := @ite _ p (Classical.propDecidable p) (nI 1) (nI 0)
theorem pI_t {p : Prop} (h : p) : pI p = nI 1 := if_pos h
theorem pI_f {p : Prop} (h : ¬ p) : pI p = nI 0 := if_neg h
theorem pI_0 {p : Prop} : pI p = nI 0 ↔ ¬ p := by
  by_cases h : p
  · rw [pI_t h, nI_eq (by decide) (by decide)]; simp [h]
  · rw [pI_f h]; simp [h]
theorem pI_B {p : Prop} : isB (pI p) = true := by
  by_cases h : p
  · rw [pI_t h]; exact q_b1
  · rw [pI_f h]; exact q_b0
theorem pI_iff {p r : Prop} (h : p ↔ r) : pI p = pI r := by rw [propext h]
/-- a search by counting up: the first k with P from k on, at most d steps -/
noncomputable def lf (P : Nat → Prop) : Nat → Nat → Nat
  | k, 0 => k
  | k, d + 1 => @ite _ (P k) (Classical.propDecidable _) k (lf P (k + 1) d)
theorem lf_0 (P : Nat → Prop) (k : Nat) : lf P k 0 = k := by simp [lf]
theorem lf_t {P : Nat → Prop} {k d : Nat} (h : P k) : lf P k (d + 1) = k := by rw [lf, if_pos h]
theorem lf_f {P : Nat → Prop} {k d : Nat} (h : ¬ P k) : lf P k (d + 1) = lf P (k + 1) d := by rw [lf, if_neg h]
theorem lf_spec (P : Nat → Prop) : ∀ d k, k ≤ lf P k d ∧ lf P k d ≤ k + d ∧ (∀ j, k ≤ j → j < lf P k d → ¬ P j) ∧ (lf P k d < k + d → P (lf P k d)) := by
  intro d
  induction d with
  | zero =>
    intro k
    rw [lf_0]
    exact ⟨Nat.le_refl _, Nat.le_refl _, fun j h1 h2 => by omega, fun h => by omega⟩
  | succ d ih =>
    intro k
    by_cases h : P k
    · rw [lf_t h]
      exact ⟨Nat.le_refl _, by omega, fun j h1 h2 => by omega, fun _ => h⟩
    · rw [lf_f h]
      obtain ⟨h1, h2, h3, h4⟩ := ih (k + 1)
      refine ⟨by omega, by omega, fun j h5 h6 => ?_, fun h5 => h4 (by omega)⟩
      by_cases h7 : j = k
      · rw [h7]; exact h
      · exact h3 j (by omega) h6
theorem lf_eq {P : Nat → Prop} {k d r : Nat} (h1 : k ≤ r) (h2 : r ≤ k + d) (h3 : ∀ j, k ≤ j → j < r → ¬ P j) (h4 : r < k + d → P r) : lf P k d = r := by
  obtain ⟨g1, g2, g3, g4⟩ := lf_spec P d k
  rcases Nat.lt_trichotomy (lf P k d) r with h | h | h
  · exact absurd (g4 (by omega)) (h3 _ g1 h)
  · exact h
  · exact absurd (h4 (by omega)) (g3 _ h1 h)
theorem lf_congr {P Q : Nat → Prop} {k d : Nat} (h : ∀ j, k ≤ j → j < k + d → (P j ↔ Q j)) : lf P k d = lf Q k d := by
  obtain ⟨g1, g2, g3, g4⟩ := lf_spec Q d k
  exact lf_eq g1 g2 (fun j h1 h2 hp => g3 j h1 h2 ((h j h1 (by omega)).mp hp)) (fun hl => (h _ g1 hl).mpr (g4 hl))
/-- the text of n letters w, as the row f holds it -/
def Rp (n : Nat) (w : Nat → Nat) (f : Nat → Int32) : Prop := n ≤ 64 ∧ ∀ j, j < n → f j = nI (w j) ∧ w j ≤ 25
theorem Rp.le {n : Nat} {w : Nat → Nat} {f : Nat → Int32} (h : Rp n w f) : n ≤ 64 := h.1
theorem Rp.at {n : Nat} {w : Nat → Nat} {f : Nat → Int32} (h : Rp n w f) {j : Nat} (hj : j < n) : f j = nI (w j) := (h.2 j hj).1
theorem Rp.b {n : Nat} {w : Nat → Nat} {f : Nat → Int32} (h : Rp n w f) {j : Nat} (hj : j < n) : w j ≤ 25 := (h.2 j hj).2
theorem Rp.eq {n : Nat} {w : Nat → Nat} {f : Nat → Int32} (h : Rp n w f) {i j : Nat} (hi : i < n) (hj : j < n) : nI (w i) = nI (w j) ↔ w i = w j := nI_eq (by have := h.b hi; omega) (by have := h.b hj; omega)
theorem at_nI {N gn : Nat} {gf : Nat → Int32} {i : Nat} (hi : i < gn) (hn : gn < 2 ^ 31) : fX8_at N gn gf (nI i) = some (gf i) := by
  unfold fX8_at
  simp (disch := omega) only [q_0, q_ofNat, nI_ltI, nI_leI, if_neg, q_inb, gd_t, nI_clamp]
  rfl
theorem put_nI {N gn : Nat} {gf : Nat → Int32} {i : Nat} {v : Int32} (hi : i < gn) (hn : gn < 2 ^ 31) : fX8_put N gn gf (nI i) v = some (upd gf i v) := by
  unfold fX8_put
  simp (disch := omega) only [q_0, q_ofNat, nI_ltI, nI_leI, if_neg, q_inb, gd_t, nI_clamp]
  rfl
theorem letter_nI {N : Nat} {Tn : Int32} {Ta : Nat → Int32} {i : Nat} (hi : i < 64) : fX2_letter N Tn Ta (nI i) = some (Ta i) := by
  unfold fX2_letter
  rw [at_nI hi (by decide)]
  rfl
theorem countSame_H {N n : Nat} {Tn : Int32} {w : Nat → Nat} {Ta : Nat → Int32} (h : Rp n w Ta) {i j b : Nat} (hi : i + b ≤ n) (hj : j + b ≤ n) : ∀ d k z, k + d = b → d < z → fX2_countSame_H14 N Tn Ta z (nI i) (nI j) (nI b) (nI k) = some (nI (lf (fun k => w (i + k) ≠ w (j + k)) k d)) := by
  have hn := h.le
  intro d
  induction d with
  | zero =>
    intro k z hk hz
    obtain ⟨z, rfl⟩ : ∃ y, z = y + 1 := ⟨z - 1, by omega⟩
    show fX2_countSame_B14 N Tn Ta _ _ _ _ _ = _
    unfold fX2_countSame_B14
    simp (disch := omega) only [nI_leI, if_pos, lf_0]
    rfl
  | succ d ih =>
    intro k z hk hz
    obtain ⟨z, rfl⟩ : ∃ y, z = y + 1 := ⟨z - 1, by omega⟩
    show fX2_countSame_B14 N Tn Ta _ _ _ _ _ = _
    unfold fX2_countSame_B14
    simp (disch := omega) only [nI_leI, if_neg, nI_add, at_nI, bn_s, q_1]
    rw [h.at (show i + k < n by omega), h.at (show j + k < n by omega)]
    by_cases e : w (i + k) = w (j + k)
    · rw [if_pos (by rw [e]), lf_f (by simpa using e)]
      exact ih (k + 1) z (by omega) (by omega)
    · rw [if_neg (by rw [h.eq (by omega) (by omega)]; exact e), lf_t e]
      rfl
theorem countSame_nI {N n : Nat} {w : Nat → Nat} {Ta : Nat → Int32} (hN : 100 ≤ N) (h : Rp n w Ta) {i j : Nat} (hi : i ≤ n) (hj : j ≤ n) : fX2_countSame N (nI n) Ta (nI i) (nI j) = some (nI (lf (fun k => w (i + k) ≠ w (j + k)) 0 (n - max i j))) := by
  have hn := h.le
  unfold fX2_countSame
  by_cases e : i < j
  · simp (disch := omega) only [nI_ltI, if_pos, q_sub, q_0]
    rw [show max i j = j by omega]
    exact countSame_H h (by omega) (by omega) _ 0 N (by omega) (by omega)
  · simp (disch := omega) only [nI_ltI, if_neg, q_sub, q_0]
    rw [show max i j = i by omega]
    exact countSame_H h (by omega) (by omega) _ 0 N (by omega) (by omega)

