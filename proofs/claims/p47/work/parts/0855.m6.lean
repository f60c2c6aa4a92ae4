/-! rotations -/
/-- two rotations of a part compared -/
noncomputable def dk (w : Nat → Nat) (a m s t : Nat) : Nat := lf (fun k => w (a + (k + s) % m) ≠ w (a + (k + t) % m)) 0 m
noncomputable def dv (w : Nat → Nat) (a m s t : Nat) : Int32 := if dk w a m s t < m then nI (w (a + (dk w a m s t + s) % m)) - nI (w (a + (dk w a m s t + t) % m)) else 0
theorem dk_eq {w : Nat → Nat} {a m s t k : Nat} (h1 : k ≤ m) (h2 : ∀ j, j < k → w (a + (j + s) % m) = w (a + (j + t) % m)) (h3 : k < m → w (a + (k + s) % m) ≠ w (a + (k + t) % m)) : dk w a m s t = k :=
  lf_eq (by omega) (by omega) (fun j _ hj hh => hh (h2 j hj)) (fun h => h3 (by omega))
theorem diff_ne {x y : Nat} (hx : x ≤ 25) (hy : y ≤ 25) (h : x ≠ y) : ¬ nI x - nI y = 0 := by
  intro hh
  have h1 := d_toInt (a := x) (b := y) (by omega) (by omega)
  rw [hh] at h1
  have : (0 : Int32).toInt = 0 := rfl
  omega
theorem diff_0 {x : Nat} : nI x - nI x = 0 := by rw [Int32.sub_self]
theorem rotl_nI {N n a b i : Nat} {Tn : Int32} {w : Nat → Nat} {Ta : Nat → Int32} (h : Rp n w Ta) (hab : a < b) (hb : b ≤ n) (hi : i < 1000) : fX5_letter N Tn Ta (nI a) (nI b) (nI i) = some (nI (w (a + i % (b - a)))) := by
  have hn := h.le
  have hm : i % (b - a) < b - a := Nat.mod_lt _ (by omega)
  unfold fX5_letter
  rw [q_sub (by omega), if_neg (nI_nle (by omega) (by omega)), q_nz (by omega) (by omega), gd_t, pk_rem (by omega) (by omega) (by omega), nI_add, letter_nI (by omega), bn_s, h.at (by omega)]
  rfl
theorem diffC_H {N n a b s t : Nat} {Tn : Int32} {w : Nat → Nat} {Ta : Nat → Int32} (h : Rp n w Ta) (hab : a < b) (hb : b ≤ n) (hs : s < 100) (ht : t < 100) : ∀ d k z, k + d = b - a → d < z → (∀ j, j < k → w (a + (j + s) % (b - a)) = w (a + (j + t) % (b - a))) → fX5_difference_H6 N Tn Ta z (nI a) (nI b) (nI s) (nI t) (0 : Int32) (nI k) = some (dv w a (b - a) s t) := by
  have hn := h.le
  intro d
  induction d with
  | zero =>
    intro k z hk hz h1
    obtain ⟨z, rfl⟩ : ∃ y, z = y + 1 := ⟨z - 1, by omega⟩
    have hd : dk w a (b - a) s t = k := dk_eq (by omega) h1 (fun hh => by omega)
    show fX5_difference_B6 N _ _ _ _ _ _ _ _ _ = _
    unfold fX5_difference_B6
    rw [q_sub (by omega), if_pos (by rw [nI_leI (by omega) (by omega)]; omega)]
    unfold dv
    rw [hd, if_neg (by omega)]
    rfl
  | succ d ih =>
    intro k z hk hz h1
    obtain ⟨z, rfl⟩ : ∃ y, z = y + 1 := ⟨z - 1, by omega⟩
    show fX5_difference_B6 N _ _ _ _ _ _ _ _ _ = _
    unfold fX5_difference_B6
    rw [q_sub (by omega), if_neg (by rw [nI_leI (by omega) (by omega)]; omega), if_pos rfl, nI_add, nI_add, Nat.add_comm s k, Nat.add_comm t k, rotl_nI h hab hb (by omega), bn_s, rotl_nI h hab hb (by omega), bn_s, nI_1]
    by_cases e : w (a + (k + s) % (b - a)) = w (a + (k + t) % (b - a))
    · rw [e, diff_0]
      exact ih (k + 1) z (by omega) (by omega) (fun j hj => by
        by_cases e2 : j = k
        · rw [e2]; exact e
        · exact h1 j (by omega))
    · obtain ⟨z, rfl⟩ : ∃ y, z = y + 1 := ⟨z - 1, by omega⟩
      have m1 : (k + s) % (b - a) < b - a := Nat.mod_lt _ (by omega)
      have m2 : (k + t) % (b - a) < b - a := Nat.mod_lt _ (by omega)
      have hd : dk w a (b - a) s t = k := dk_eq (by omega) h1 (fun _ => e)
      have hne := diff_ne (h.b (show a + (k + s) % (b - a) < n by omega)) (h.b (show a + (k + t) % (b - a) < n by omega)) e
      have hv : dv w a (b - a) s t = nI (w (a + (k + s) % (b - a))) - nI (w (a + (k + t) % (b - a))) := by
        unfold dv
        rw [hd, if_pos (by omega)]
      rw [hv]
      show fX5_difference_B6 N _ _ _ _ _ _ _ _ _ = _
      unfold fX5_difference_B6
      rw [if_neg hne]
      by_cases q : nI b - nI a ≤ nI (k + 1)
      · rw [if_pos q]; rfl
      · rw [if_neg q]; rfl
theorem diffC_nI {N n a b s t : Nat} {Tn : Int32} {w : Nat → Nat} {Ta : Nat → Int32} (hN : 100 ≤ N) (h : Rp n w Ta) (hab : a < b) (hb : b ≤ n) (hs : s < 100) (ht : t < 100) : fX5_difference N Tn Ta (nI a) (nI b) (nI s) (nI t) = some (dv w a (b - a) s t) := by
  have hn := h.le
  exact diffC_H h hab hb hs ht (b - a) 0 N (by omega) (by omega) (fun j hj => by omega)
/-- the least, and the greatest, rotation: the later ones against the best one until then -/
noncomputable def lb (w : Nat → Nat) (a m : Nat) : Nat → Nat → Nat → Nat
  | 0, _, best => best
  | d + 1, k, best => if 0 ≤ dv w a m k best then lb w a m d (k + 1) best else lb w a m d (k + 1) k
noncomputable def gb (w : Nat → Nat) (a m : Nat) : Nat → Nat → Nat → Nat
  | 0, _, best => best
  | d + 1, k, best => if dv w a m k best ≤ 0 then gb w a m d (k + 1) best else gb w a m d (k + 1) k
theorem leastC_H {N n a b : Nat} {Tn : Int32} {w : Nat → Nat} {Ta : Nat → Int32} (hN : 100 ≤ N) (h : Rp n w Ta) (hab : a < b) (hb : b ≤ n) : ∀ d k z best, k + d = b - a → d < z → best < k → fX5_least_H5 N Tn Ta z (nI a) (nI b) (nI best) (nI k) = some (nI (lb w a (b - a) d k best)) := by
  have hn := h.le
  intro d
  induction d with
  | zero =>
    intro k z best hk hz hbest
    obtain ⟨z, rfl⟩ : ∃ y, z = y + 1 := ⟨z - 1, by omega⟩
    show fX5_least_B5 N _ _ _ _ _ _ _ = _
    unfold fX5_least_B5
    rw [q_sub (by omega), if_pos (by rw [nI_leI (by omega) (by omega)]; omega)]
    rfl
  | succ d ih =>
    intro k z best hk hz hbest
    obtain ⟨z, rfl⟩ : ∃ y, z = y + 1 := ⟨z - 1, by omega⟩
    show fX5_least_B5 N _ _ _ _ _ _ _ = _
    unfold fX5_least_B5
    rw [q_sub (by omega), if_neg (by rw [nI_leI (by omega) (by omega)]; omega), diffC_nI hN h hab hb (by omega) (by omega), bn_s, lb]
    unfold fX5_least_J28
    rw [nI_1]
    by_cases e : 0 ≤ dv w a (b - a) k best
    · rw [if_pos e, if_pos e]
      exact ih (k + 1) z best (by omega) (by omega) (by omega)
    · rw [if_neg e, if_neg e]
      exact ih (k + 1) z k (by omega) (by omega) (by omega)
theorem greatestC_H {N n a b : Nat} {Tn : Int32} {w : Nat → Nat} {Ta : Nat → Int32} (hN : 100 ≤ N) (h : Rp n w Ta) (hab : a < b) (hb : b ≤ n) : ∀ d k z best, k + d = b - a → d < z → best < k → fX5_greatest_H5 N Tn Ta z (nI a) (nI b) (nI best) (nI k) = some (nI (gb w a (b - a) d k best)) := by
  have hn := h.le
  intro d
  induction d with
  | zero =>
    intro k z best hk hz hbest
    obtain ⟨z, rfl⟩ : ∃ y, z = y + 1 := ⟨z - 1, by omega⟩
    show fX5_greatest_B5 N _ _ _ _ _ _ _ = _
    unfold fX5_greatest_B5
    rw [q_sub (by omega), if_pos (by rw [nI_leI (by omega) (by omega)]; omega)]
    rfl
  | succ d ih =>
    intro k z best hk hz hbest
    obtain ⟨z, rfl⟩ : ∃ y, z = y + 1 := ⟨z - 1, by omega⟩
    show fX5_greatest_B5 N _ _ _ _ _ _ _ = _
    unfold fX5_greatest_B5
    rw [q_sub (by omega), if_neg (by rw [nI_leI (by omega) (by omega)]; omega), diffC_nI hN h hab hb (by omega) (by omega), bn_s, gb]
    unfold fX5_greatest_J28
    rw [nI_1]
    by_cases e : dv w a (b - a) k best ≤ 0
    · rw [if_pos e, if_pos e]
      exact ih (k + 1) z best (by omega) (by omega) (by omega)
    · rw [if_neg e, if_neg e]
      exact ih (k + 1) z k (by omega) (by omega) (by omega)
theorem leastC_nI {N n a b : Nat} {Tn : Int32} {w : Nat → Nat} {Ta : Nat → Int32} (hN : 100 ≤ N) (h : Rp n w Ta) (hab : a < b) (hb : b ≤ n) : fX5_least N Tn Ta (nI a) (nI b) = some (nI (lb w a (b - a) (b - a - 1) 1 0)) := by
  have hn := h.le
  exact leastC_H hN h hab hb (b - a - 1) 1 N 0 (by omega) (by omega) (by omega)
theorem dk_swap {w : Nat → Nat} {a m s t : Nat} : dk w a m s t = dk w a m t s := by
  unfold dk
  exact lf_congr (fun j _ _ => ⟨fun h e => h e.symm, fun h e => h e.symm⟩)
theorem dv_neg {n : Nat} {w : Nat → Nat} {f : Nat → Int32} (h : Rp n w f) {a b s t : Nat} (hab : a < b) (hb : b ≤ n) : 0 < dv w a (b - a) s t ↔ ¬ 0 ≤ dv w a (b - a) t s := by
  have hn := h.le
  unfold dv
  rw [dk_swap (s := t) (t := s)]
  by_cases e : dk w a (b - a) s t < b - a
  · rw [if_pos e, if_pos e]
    have m1 : (dk w a (b - a) s t + s) % (b - a) < b - a := Nat.mod_lt _ (by omega)
    have m2 : (dk w a (b - a) s t + t) % (b - a) < b - a := Nat.mod_lt _ (by omega)
    have b1 := h.b (show a + (dk w a (b - a) s t + s) % (b - a) < n by omega)
    have b2 := h.b (show a + (dk w a (b - a) s t + t) % (b - a) < n by omega)
    rw [q_0, d_gt (by omega) (by omega), d_ge (by omega) (by omega)]
    omega
  · rw [if_neg e, if_neg e]; decide
theorem lb_pos {w : Nat → Nat} {a m : Nat} : ∀ d k best, 0 < best → 0 < k → lb w a m d k best ≠ 0 := by
  intro d
  induction d with
  | zero => intro k best h1 h2; rw [lb]; omega
  | succ d ih =>
    intro k best h1 h2
    rw [lb]
    by_cases e : 0 ≤ dv w a m k best
    · rw [if_pos e]; exact ih _ _ h1 (by omega)
    · rw [if_neg e]; exact ih _ _ h2 (by omega)
theorem lb_0 {w : Nat → Nat} {a m : Nat} : ∀ d k, 0 < k → (lb w a m d k 0 = 0 ↔ ∀ j, k ≤ j → j < k + d → 0 ≤ dv w a m j 0) := by
  intro d
  induction d with
  | zero => intro k h2; rw [lb]; exact ⟨fun _ j h3 h4 => by omega, fun _ => rfl⟩
  | succ d ih =>
    intro k h2
    rw [lb]
    by_cases e : 0 ≤ dv w a m k 0
    · rw [if_pos e, ih (k + 1) (by omega)]
      exact ⟨fun h j h3 h4 => by
        by_cases e2 : j = k
        · rw [e2]; exact e
        · exact h j (by omega) (by omega), fun h j h3 h4 => h j (by omega) (by omega)⟩
    · rw [if_neg e]
      exact ⟨fun h => absurd h (lb_pos _ _ _ h2 (by omega)), fun h => absurd (h k (by omega) (by omega)) e⟩
