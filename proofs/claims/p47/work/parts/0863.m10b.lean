/-! words as numbers -/
def dg (L m x k : Nat) : Nat := x / L ^ (m - 1 - k) % L
def nkr (L P x : Nat) : Nat → Nat → Nat → Nat
  | 0, _, b => b
  | d + 1, y, b => if (y % P) * L + y / P < x then 0 else if (y % P) * L + y / P = x then b else nkr L P x d ((y % P) * L + y / P) (b + 1)
def p8 (L : Nat) : Nat → Nat → Nat
  | 0, _ => 0
  | m + 1, x => p8 L m (x / L) * 8 + x % L
theorem dg_lt {L m x k : Nat} (hL : 1 ≤ L) : dg L m x k < L := Nat.mod_lt _ (by omega)
theorem dg_Rp {L m x : Nat} (hL : 1 ≤ L) (hL8 : L ≤ 8) (hm : m ≤ 8) : Rp m (dg L m x) (fun k => nI (dg L m x k)) := ⟨by omega, fun j hj => ⟨rfl, by have := dg_lt (m := m) (x := x) (k := j) hL; omega⟩⟩
theorem pre_step {L m x k : Nat} (hk : k < m) : x / L ^ (m - 1 - k) = (x / L ^ (m - k)) * L + dg L m x k := by
  unfold dg
  have h1 : L ^ (m - k) = L ^ (m - 1 - k) * L := by rw [show m - k = (m - 1 - k) + 1 by omega, Nat.pow_succ]
  rw [h1, ← Nat.div_div_eq_div_mul]
  have := Nat.div_add_mod (x / L ^ (m - 1 - k)) L
  rw [Nat.mul_comm] at this
  exact this.symm
theorem pre_eq {L m x y : Nat} (hx : x < L ^ m) (hy : y < L ^ m) : ∀ k, k ≤ m → (∀ j, j < k → dg L m x j = dg L m y j) → x / L ^ (m - k) = y / L ^ (m - k) := by
  intro k
  induction k with
  | zero => intro hk h; rw [Nat.sub_zero, Nat.div_eq_of_lt hx, Nat.div_eq_of_lt hy]
  | succ k ih =>
    intro hk h
    rw [show m - (k + 1) = m - 1 - k by omega, pre_step (by omega), pre_step (by omega), ih (by omega) (fun j hj => h j (by omega)), h k (by omega)]
theorem num_eq {L m x y : Nat} (hx : x < L ^ m) (hy : y < L ^ m) (h : ∀ j, j < m → dg L m x j = dg L m y j) : x = y := by
  have := pre_eq hx hy m (Nat.le_refl m) h
  rw [Nat.sub_self, Nat.pow_zero, Nat.div_one, Nat.div_one] at this
  exact this
theorem num_lt {L m x y k : Nat} (hL : 1 ≤ L) (hx : x < L ^ m) (hy : y < L ^ m) (hk : k < m) (h : ∀ j, j < k → dg L m x j = dg L m y j) (h2 : dg L m x k < dg L m y k) : x < y := by
  have h1 := pre_eq hx hy k (by omega) h
  have h3 := pre_step (L := L) (x := x) hk
  have h4 := pre_step (L := L) (x := y) hk
  have h5 : x / L ^ (m - 1 - k) < y / L ^ (m - 1 - k) := by rw [h3, h4, h1]; omega
  rcases Nat.lt_or_ge x y with q | q
  · exact q
  · have := Nat.div_le_div_right (c := L ^ (m - 1 - k)) q
    omega
/-- the first letter goes behind the last one -/
theorem rot_lt {L m y : Nat} (hL : 1 ≤ L) (hm : 1 ≤ m) (hy : y < L ^ m) : (y % L ^ (m - 1)) * L + y / L ^ (m - 1) < L ^ m := by
  have hP : L ^ m = L ^ (m - 1) * L := by rw [← Nat.pow_succ, show (m - 1).succ = m by omega]
  have h1 : y / L ^ (m - 1) < L := by
    rw [Nat.div_lt_iff_lt_mul (Nat.pow_pos (by omega))]
    rw [hP, Nat.mul_comm] at hy; exact hy
  have h2 : y % L ^ (m - 1) < L ^ (m - 1) := Nat.mod_lt _ (Nat.pow_pos (by omega))
  have h3 : (y % L ^ (m - 1) + 1) * L ≤ L ^ (m - 1) * L := Nat.mul_le_mul_right L h2
  rw [Nat.add_mul, Nat.one_mul] at h3
  omega
theorem rot_dg {L m y k : Nat} (hL : 1 ≤ L) (hm : 1 ≤ m) (hy : y < L ^ m) (hk : k < m) : dg L m ((y % L ^ (m - 1)) * L + y / L ^ (m - 1)) k = dg L m y ((k + 1) % m) := by
  have hP : L ^ m = L ^ (m - 1) * L := by rw [← Nat.pow_succ, show (m - 1).succ = m by omega]
  have h1 : y / L ^ (m - 1) < L := by
    rw [Nat.div_lt_iff_lt_mul (Nat.pow_pos (by omega))]
    rw [hP, Nat.mul_comm] at hy; exact hy
  by_cases e : k = m - 1
  · subst e
    rw [show m - 1 + 1 = m by omega, Nat.mod_self]
    unfold dg
    rw [show m - 1 - (m - 1) = 0 by omega, Nat.pow_zero, Nat.div_one, Nat.sub_zero]
    rw [Nat.mul_comm, Nat.mul_add_mod]
  · rw [Nat.mod_eq_of_lt (show k + 1 < m by omega)]
    unfold dg
    have h2 : ((y % L ^ (m - 1)) * L + y / L ^ (m - 1)) / L ^ (m - 1 - k) = (y % L ^ (m - 1)) / L ^ (m - 1 - (k + 1)) := by
      rw [show m - 1 - k = 1 + (m - 1 - (k + 1)) by omega, Nat.pow_add, Nat.pow_one, ← Nat.div_div_eq_div_mul, Nat.mul_comm (y % L ^ (m - 1)) L, Nat.mul_add_div (by omega), Nat.div_eq_of_lt h1, Nat.add_zero]
    rw [h2]
    have h3 : L ^ (m - 1) = L ^ (m - 1 - (k + 1)) * L ^ (k + 1) := by rw [← Nat.pow_add]; congr 1; omega
    rw [h3, Nat.mod_mul_right_div_self, Nat.mod_mod_of_dvd _ ⟨L ^ k, by rw [Nat.pow_succ, Nat.mul_comm]⟩]
theorem dv_pos {n : Nat} {w : Nat → Nat} {f : Nat → Int32} (h : Rp n w f) {a b s t : Nat} (hab : a < b) (hb : b ≤ n) : 0 < dv w a (b - a) s t ↔ ∃ k, k < b - a ∧ (∀ j, j < k → w (a + (j + s) % (b - a)) = w (a + (j + t) % (b - a))) ∧ w (a + (k + t) % (b - a)) < w (a + (k + s) % (b - a)) := by
  have hn := h.le
  obtain ⟨s1, s2, s3, s4⟩ := lf_spec (fun k => w (a + (k + s) % (b - a)) ≠ w (a + (k + t) % (b - a))) (b - a) 0
  have s5 : ∀ j, j < dk w a (b - a) s t → w (a + (j + s) % (b - a)) = w (a + (j + t) % (b - a)) := fun j hj => Classical.byContradiction (s3 j (by omega) hj)
  have hle : dk w a (b - a) s t ≤ b - a := by unfold dk; omega
  unfold dv
  constructor
  · intro h0
    by_cases e : dk w a (b - a) s t < b - a
    · have m1 : (dk w a (b - a) s t + s) % (b - a) < b - a := Nat.mod_lt _ (by omega)
      have m2 : (dk w a (b - a) s t + t) % (b - a) < b - a := Nat.mod_lt _ (by omega)
      rw [if_pos e, q_0, d_gt (by have := h.b (show a + (dk w a (b - a) s t + s) % (b - a) < n by omega); omega) (by have := h.b (show a + (dk w a (b - a) s t + t) % (b - a) < n by omega); omega)] at h0
      exact ⟨_, e, s5, h0⟩
    · rw [if_neg e] at h0
      exact absurd h0 (by decide)
  · rintro ⟨k, k1, k2, k3⟩
    have hk : dk w a (b - a) s t = k := dk_eq (by omega) k2 (fun _ => by omega)
    have m1 : (k + s) % (b - a) < b - a := Nat.mod_lt _ (by omega)
    have m2 : (k + t) % (b - a) < b - a := Nat.mod_lt _ (by omega)
    rw [hk, if_pos k1, q_0, d_gt (by have := h.b (show a + (k + s) % (b - a) < n by omega); omega) (by have := h.b (show a + (k + t) % (b - a) < n by omega); omega)]
    exact k3
theorem dv_congr {w : Nat → Nat} {a m s t u : Nat} (h : ∀ k, k < m → w (a + (k + t) % m) = w (a + (k + u) % m)) : dv w a m s t = dv w a m s u := by
  have hk : dk w a m s t = dk w a m s u := by
    unfold dk
    exact lf_congr (fun j h1 h2 => by rw [h j (by omega)])
  unfold dv
  rw [hk]
  by_cases e : dk w a m s u < m
  · rw [if_pos e, if_pos e, h _ e]
  · rw [if_neg e, if_neg e]
/-- a word that is not greater than one of its rotations -/
def isNk (w : Nat → Nat) (m : Nat) : Prop := ∀ j, 1 ≤ j → j < m → ¬ 0 < dv w 0 m 0 j
theorem nkr_spec {L m x : Nat} (hL : 1 ≤ L) (hL8 : L ≤ 8) (hm : 1 ≤ m) (hm8 : m ≤ 8) (hx : x < L ^ m) : ∀ d y b, b + d = m → 1 ≤ b → y < L ^ m → (∀ k, k < m → dg L m y k = dg L m x ((k + (b - 1)) % m)) → (nkr L (L ^ (m - 1)) x d y b = 0 ∧ ∃ j, b ≤ j ∧ j < m ∧ 0 < dv (dg L m x) 0 m 0 j) ∨ (b ≤ nkr L (L ^ (m - 1)) x d y b ∧ nkr L (L ^ (m - 1)) x d y b ≤ m ∧ (∀ j, b ≤ j → j < nkr L (L ^ (m - 1)) x d y b → ¬ 0 < dv (dg L m x) 0 m 0 j ∧ ¬ dv (dg L m x) 0 m j 0 = 0) ∧ (nkr L (L ^ (m - 1)) x d y b < m → dv (dg L m x) 0 m (nkr L (L ^ (m - 1)) x d y b) 0 = 0)) := by
  have hR := dg_Rp (x := x) hL hL8 hm8
  intro d
  induction d with
  | zero =>
    intro y b hb hb1 hy hd
    right
    show b ≤ b ∧ b ≤ m ∧ _ ∧ _
    exact ⟨Nat.le_refl _, by omega, fun j h1 h2 => by
      have : nkr L (L ^ (m - 1)) x 0 y b = b := rfl
      omega, fun h => by
      have : nkr L (L ^ (m - 1)) x 0 y b = b := rfl
      omega⟩
  | succ d ih =>
    intro y b hb hb1 hy hd
    have hz := rot_lt (y := y) hL hm hy
    have hzd : ∀ k, k < m → dg L m ((y % L ^ (m - 1)) * L + y / L ^ (m - 1)) k = dg L m x ((k + b) % m) := by
      intro k hk
      rw [rot_dg hL hm hy hk, hd _ (Nat.mod_lt _ (by omega)), Nat.mod_add_mod]
      congr 2
      omega
    have hdv0 : dv (dg L m x) 0 m b 0 = 0 ↔ ∀ k, k < m → dg L m x ((k + b) % m) = dg L m x k := by
      have := dv_z hR (a := 0) (b := m) (s := b) (t := 0) (by omega) (Nat.le_refl m)
      simp only [Nat.sub_zero, Nat.zero_add, Nat.add_zero] at this
      rw [this]
      constructor
      · intro hh k hk
        have := hh k hk
        rw [Nat.mod_eq_of_lt hk] at this
        exact this
      · intro hh k hk
        rw [Nat.mod_eq_of_lt hk]
        exact hh k hk
    have hdvp : 0 < dv (dg L m x) 0 m 0 b ↔ ∃ k, k < m ∧ (∀ j, j < k → dg L m x j = dg L m x ((j + b) % m)) ∧ dg L m x ((k + b) % m) < dg L m x k := by
      have := dv_pos hR (a := 0) (b := m) (s := 0) (t := b) (by omega) (Nat.le_refl m)
      simp only [Nat.sub_zero, Nat.zero_add, Nat.add_zero] at this
      rw [this]
      constructor
      · rintro ⟨k, k1, k2, k3⟩
        refine ⟨k, k1, fun j hj => ?_, ?_⟩
        · have := k2 j hj
          rw [Nat.mod_eq_of_lt (show j < m by omega)] at this
          exact this
        · rw [Nat.mod_eq_of_lt k1] at k3; exact k3
      · rintro ⟨k, k1, k2, k3⟩
        refine ⟨k, k1, fun j hj => ?_, ?_⟩
        · rw [Nat.mod_eq_of_lt (show j < m by omega)]
          exact k2 j hj
        · rw [Nat.mod_eq_of_lt k1]; exact k3
    have hun : nkr L (L ^ (m - 1)) x (d + 1) y b = if (y % L ^ (m - 1)) * L + y / L ^ (m - 1) < x then 0 else if (y % L ^ (m - 1)) * L + y / L ^ (m - 1) = x then b else nkr L (L ^ (m - 1)) x d ((y % L ^ (m - 1)) * L + y / L ^ (m - 1)) (b + 1) := rfl
    rw [hun]
    clear hun
    generalize (y % L ^ (m - 1)) * L + y / L ^ (m - 1) = z at hz hzd ⊢
    obtain ⟨s1, s2, s3, s4⟩ := lf_spec (fun k => dg L m z k ≠ dg L m x k) m 0
    generalize lf (fun k => dg L m z k ≠ dg L m x k) 0 m = k at s1 s2 s3 s4
    have s5 : ∀ j, j < k → dg L m z j = dg L m x j := fun j hj => Classical.byContradiction (s3 j (by omega) hj)
    by_cases e : k < m
    · have e2 := s4 (by omega)
      rcases Nat.lt_or_ge (dg L m z k) (dg L m x k) with q | q
      · -- a lesser rotation
        have hlt := num_lt hL hz hx e s5 q
        rw [if_pos hlt]
        refine Or.inl ⟨rfl, b, Nat.le_refl b, by omega, hdvp.mpr ⟨k, e, fun j hj => ?_, ?_⟩⟩
        · rw [← hzd j (by omega)]; exact (s5 j hj).symm
        · rw [← hzd k e]; exact q
      · have hgt := num_lt hL hx hz e (fun j hj => (s5 j hj).symm) (by omega)
        rw [if_neg (by omega), if_neg (by omega)]
        have hb1' : ¬ 0 < dv (dg L m x) 0 m 0 b := by
          intro hh
          obtain ⟨k2, c1, c2, c3⟩ := hdvp.mp hh
          rw [← hzd k2 c1] at c3
          rcases Nat.lt_trichotomy k k2 with r | r | r
          · have := c2 k r
            rw [← hzd k e] at this
            exact e2 this.symm
          · subst r; omega
          · have := s5 k2 r; omega
        have hb2' : ¬ dv (dg L m x) 0 m b 0 = 0 := by
          intro hh
          have := hdv0.mp hh k e
          rw [← hzd k e] at this
          exact e2 this
        rcases ih z (b + 1) (by omega) (by omega) hz (fun k hk => by rw [Nat.add_sub_cancel]; exact hzd k hk) with ⟨g1, j, g2, g3, g4⟩ | ⟨g1, g2, g3, g4⟩
        · exact Or.inl ⟨g1, j, by omega, g3, g4⟩
        · refine Or.inr ⟨by omega, g2, fun j h1 h2 => ?_, g4⟩
          by_cases e3 : j = b
          · rw [e3]; exact ⟨hb1', hb2'⟩
          · exact g3 j (by omega) h2
    · have heq : z = x := num_eq hz hx (fun j hj => s5 j (by omega))
      rw [if_neg (by omega), if_pos heq]
      refine Or.inr ⟨Nat.le_refl b, by omega, fun j h1 h2 => by omega, fun _ => hdv0.mpr (fun k hk => ?_)⟩
      rw [← hzd k hk, heq]
/-- the number of a necklace, and the length of its root; 0 for other words -/
def nkR (L m x : Nat) : Nat := nkr L (L ^ (m - 1)) x (m - 1) x 1
theorem nkR_spec {L m x : Nat} (hL : 1 ≤ L) (hL8 : L ≤ 8) (hm : 1 ≤ m) (hm8 : m ≤ 8) (hx : x < L ^ m) : (nkR L m x = 0 ∧ ¬ isNk (dg L m x) m) ∨ (1 ≤ nkR L m x ∧ isNk (dg L m x) m ∧ nkR L m x = rt (dg L m x) 0 m) := by
  have hR := dg_Rp (x := x) hL hL8 hm8
  rcases nkr_spec hL hL8 hm hm8 hx (m - 1) x 1 (by omega) (Nat.le_refl 1) hx (fun k hk => by rw [show k + (1 - 1) = k by omega, Nat.mod_eq_of_lt hk]) with ⟨g1, j, g2, g3, g4⟩ | ⟨g1, g2, g3, g4⟩
  · exact Or.inl ⟨g1, fun hh => hh j g2 g3 g4⟩
  · right
    have hq : nkr L (L ^ (m - 1)) x (m - 1) x 1 = nkR L m x := rfl
    rw [hq] at g1 g2 g3 g4
    obtain ⟨r1, r2, r3, r4, r5⟩ := rt_spec (w := dg L m x) (a := 0) (b := m) (by omega)
    rw [Nat.sub_zero] at r2 r3
    have hz : ∀ s, s < m → (dv (dg L m x) 0 m s 0 = 0 ↔ s % rt (dg L m x) 0 m = 0) := by
      intro s hs
      have h1 := dv_z hR (a := 0) (b := m) (s := s) (t := 0) (by omega) (Nat.le_refl m)
      have h2 := rot_eq (w := dg L m x) (a := 0) (b := m) (s := s) (t := 0) (by omega) (by omega) (by omega)
      rw [Nat.sub_zero] at h1 h2
      rw [h1, h2]
      rfl
    have hge : nkR L m x ≤ rt (dg L m x) 0 m := by
      rcases Nat.lt_or_ge (rt (dg L m x) 0 m) (nkR L m x) with q | q
      · exact absurd ((hz _ (by omega)).mpr (Nat.mod_self _)) (g3 _ r1 q).2
      · exact q
    have heq : nkR L m x = rt (dg L m x) 0 m := by
      by_cases e : nkR L m x < m
      · have h3 := (hz _ e).mp (g4 e)
        have := Nat.le_of_dvd (by omega) (Nat.dvd_of_mod_eq_zero h3)
        omega
      · omega
    refine ⟨g1, fun j j1 j2 => ?_, heq⟩
    have hPU := per_PU (w := dg L m x) (a := 0) (b := m) (by omega) r1 (by rw [Nat.sub_zero]; exact r3) r4
    rw [Nat.sub_zero] at hPU
    have hlt : j % rt (dg L m x) 0 m < rt (dg L m x) 0 m := Nat.mod_lt _ (by omega)
    have hdm := Nat.mod_add_div j (rt (dg L m x) 0 m)
    rw [dv_congr (u := j % rt (dg L m x) 0 m) (fun k hk => by
      have := PU_mul hPU (j / rt (dg L m x) 0 m) (k + j % rt (dg L m x) 0 m)
      rw [Nat.add_assoc, hdm] at this
      exact this)]
    by_cases e : j % rt (dg L m x) 0 m = 0
    · rw [e]
      intro hh
      obtain ⟨k, k1, k2, k3⟩ := (dv_pos hR (a := 0) (b := m) (s := 0) (t := 0) (by omega) (Nat.le_refl m)).mp (by rw [Nat.sub_zero]; exact hh)
      omega
    · exact (g3 _ (by omega) (by omega)).1
theorem q_inb8 {a : Nat} (h : a < 8) : inb (nI a) 8 = true := q_inb h (by decide)
theorem lay_Rp {L m x : Nat} {g : Nat → Int32} (hL : 1 ≤ L) (hL8 : L ≤ 8) (hm8 : m ≤ 8) (h : ∀ j, j < m → g j = nI (dg L m x j)) : Rp m (dg L m x) g := ⟨by omega, fun j hj => ⟨h j hj, by have := dg_lt (m := m) (x := x) (k := j) hL; omega⟩⟩
theorem pow_small {L m : Nat} (hL : L ≤ 4) (hm : m ≤ 8) : L ^ m ≤ 65536 := by
  have h1 : L ^ m ≤ 4 ^ m := Nat.pow_le_pow_left hL m
  have h2 : 4 ^ m ≤ 4 ^ 8 := Nat.pow_le_pow_right (by decide) hm
  have h3 : 4 ^ 8 = 65536 := by decide
  omega
