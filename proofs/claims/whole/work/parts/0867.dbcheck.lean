theorem chkDB_all : ∀ L : Fin 9, ∀ m : Fin 7, L.val = 0 ∨ m.val = 0 ∨ chkDB L.val m.val = true := by decide +kernel
theorem dbOk (L m : Nat) (h1 : 1 ≤ L) (h2 : L ≤ 8) (h3 : 1 ≤ m) (h4 : m ≤ 6) : chkDB L m = true := by
  rcases chkDB_all ⟨L, by omega⟩ ⟨m, by omega⟩ with h | h | h
  · exact absurd h (show ¬ L = 0 by omega)
  · exact absurd h (show ¬ m = 0 by omega)
  · exact h
