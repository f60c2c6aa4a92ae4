/-! p47: the de Bruijn texts, looked at one by one -/
def chkD2 (L m : Nat) : Bool := match fX4_power 100000 (nI L) (nI m) with
  | some P => if lg_cmp P (64 : Int64) ≤ 0 then
      match fX8_loadDeBruijn_H57 100000 100000 (nI 0) (fun _ => 0) (nI L - 1) (nI m) 0 1 (1 : Int32) (0 : Int32) with
      | some (.inr (_, tn, ta, _)) => chkDt ta ta tn.toNatClampNeg
      | _ => false
    else true
  | _ => false
theorem chkD2_all : ∀ L : Fin 9, ∀ m : Fin 7, L.val = 0 ∨ m.val = 0 ∨ chkD2 L.val m.val = true := by decide +kernel
theorem dbOk2 (L m : Nat) (h1 : 1 ≤ L) (h2 : L ≤ 8) (h3 : 1 ≤ m) (h4 : m ≤ 6) : chkD2 L m = true := by
  rcases chkD2_all ⟨L, by omega⟩ ⟨m, by omega⟩ with h | h | h
  · exact absurd h (show ¬ L = 0 by omega)
  · exact absurd h (show ¬ m = 0 by omega)
  · exact h
