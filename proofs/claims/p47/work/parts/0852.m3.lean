/-! the reference: parts compared, Lyndon parts, the longest Lyndon word -/
theorem pI_z {p : Prop} : pI p = 0 ↔ ¬ p := pI_0
theorem nI_z {a : Nat} (h : a < 2 ^ 31) : nI a = 0 ↔ a = 0 := by rw [q_0, nI_eq h (by decide)]
/-- the part [a, b) is less than the part [c, e) -/
def PL (r : Bool) (w : Nat → Nat) (a b c e : Nat) : Prop := (∃ k, a + k < b ∧ c + k < e ∧ (∀ j, j < k → w (a + j) = w (c + j)) ∧ ltR r (w (a + k)) (w (c + k))) ∨ (b - a < e - c ∧ ∀ j, j < b - a → w (a + j) = w (c + j))
theorem PL_at {r : Bool} {w : Nat → Nat} {a b c e k : Nat} (h1 : a + k < b) (h2 : c + k < e) (h3 : ∀ j, j < k → w (a + j) = w (c + j)) (h4 : w (a + k) ≠ w (c + k)) : PL r w a b c e ↔ ltR r (w (a + k)) (w (c + k)) := by
  constructor
  · intro h
    rcases h with ⟨x, g1, g2, g3, g4⟩ | ⟨g1, g2⟩
    · rcases Nat.lt_trichotomy x k with hx | hx | hx
      · exact absurd (h3 x hx) (ltR_ne g4)
      · rw [← hx]; exact g4
      · exact absurd (g3 k hx) h4
    · exact absurd (g2 k (by omega)) h4
  · intro h
    exact Or.inl ⟨k, h1, h2, h3, h⟩
theorem PL_all {r : Bool} {w : Nat → Nat} {a b c e : Nat} (h3 : ∀ j, j < min (b - a) (e - c) → w (a + j) = w (c + j)) : PL r w a b c e ↔ b - a < e - c := by
  constructor
  · intro h
    rcases h with ⟨x, g1, g2, g3, g4⟩ | ⟨g1, g2⟩
    · exact absurd (h3 x (by omega)) (ltR_ne g4)
    · exact g1
  · intro h
    exact Or.inr ⟨h, fun j hj => h3 j (by omega)⟩
theorem dR_toI {r : Bool} {x y : Nat} (hx : x ≤ 25) (hy : y ≤ 25) : (dR r (nI x - nI y)).toInt = match r with | false => (x : Int) - y | true => (y : Int) - x := by
  cases r with
  | false => exact d_toInt (by omega) (by omega)
  | true => exact d_neg (by omega) (by omega)
theorem dR_iff {r : Bool} {x y : Nat} (hx : x ≤ 25) (hy : y ≤ 25) : (dR r (nI x - nI y) < 0 ↔ ltR r x y) ∧ (0 < dR r (nI x - nI y) ↔ ltR r y x) ∧ (0 ≤ dR r (nI x - nI y) ↔ ¬ ltR r x y) := by
  have h0 : (0 : Int32).toInt = 0 := rfl
  rw [Int32.lt_iff_toInt_lt, Int32.lt_iff_toInt_lt, Int32.le_iff_toInt_le, dR_toI hx hy, h0]
  cases r <;> simp only [ltR] <;> omega
theorem PL_LY {r : Bool} {w : Nat → Nat} {a b : Nat} : (∀ t, a + 1 ≤ t → t < b → PL r w a b t b) ↔ LY r w a b := by
  constructor
  · intro h s h1 h2
    rcases h s h1 h2 with ⟨k, g1, g2, g3, g4⟩ | ⟨g1, g2⟩
    · exact ⟨k, g2, g3, g4⟩
    · omega
  · intro h t h1 h2
    obtain ⟨k, g2, g3, g4⟩ := h t h1 h2
    exact Or.inl ⟨k, by omega, g2, g3, g4⟩
