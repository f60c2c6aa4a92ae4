theorem Hold_at {w : Nat → Nat} {n : Nat} {l pre t : List (Nat × Nat)} {x : Nat × Nat} {A B D : Nat → Int32} (h : Hold w n l A B D) (hl : l = pre ++ x :: t) : A pre.length = nI x.1 ∧ B pre.length = nI (rE w n x.1 x.2) ∧ D pre.length = nI x.2 := by
  subst hl
  have := h pre.length (by rw [List.length_append, List.length_cons]; omega)
  rw [List.getElem_append_right (Nat.le_refl _)] at this
  simpa using this
theorem RuL_at {w : Nat → Nat} {n : Nat} {pre t : List (Nat × Nat)} {x : Nat × Nat} (hl : RuL w n = pre ++ x :: t) : isR w n x.1 x.2 ∧ pre.length + 1 + t.length ≤ n - 1 := by
  have h1 := RuL_len (w := w) (n := n)
  refine ⟨(rFrom_mem n 0 x (by
    show x ∈ RuL w n
    rw [hl, List.mem_append]
    exact Or.inr List.mem_cons_self)).2, ?_⟩
  rw [hl, List.length_append, List.length_cons] at h1
  omega
theorem app_one {l pre t : List (Nat × Nat)} {x : Nat × Nat} (hl : l = pre ++ x :: t) : l = (pre ++ [x]) ++ t := by rw [hl, List.append_assoc]; rfl
theorem len_one {pre : List (Nat × Nat)} {x : Nat × Nat} : (pre ++ [x]).length = pre.length + 1 := by rw [List.length_append, List.length_singleton]
theorem len_app {l pre t : List (Nat × Nat)} (hl : l = pre ++ t) : l.length = pre.length + t.length := by rw [hl, List.length_append]
/-! the runs over a place -/
noncomputable def ovL (w : Nat → Nat) (n p : Nat) : List (Nat × Nat) → Nat
  | [] => 0
  | x :: t => (if x.1 ≤ p ∧ p < rE w n x.1 x.2 then 1 else 0) + ovL w n p t
theorem ovC_H {N n p : Nat} {w : Nat → Nat} {Ta A B D : Nat → Int32} (hn : n ≤ 64) (hp : p < n) (hH : Hold w n (RuL w n) A B D) : ∀ (t pre : List (Nat × Nat)) z c, RuL w n = pre ++ t → t.length < z → fX8_runsOver_H26 N (nI n) Ta z (nI (RuL w n).length) A B D (nI p) (nI c) (nI pre.length) = some (.inr (nI (c + ovL w n p t), nI (RuL w n).length, A, B, D)) := by
  have hlen := RuL_len (w := w) (n := n)
  intro t
  induction t with
  | nil =>
    intro pre z c hl hz
    obtain ⟨z, rfl⟩ : ∃ y, z = y + 1 := ⟨z - 1, by simp at hz; omega⟩
    have h1 := len_app hl
    simp only [List.length_nil] at h1
    show fX8_runsOver_B26 N _ _ _ _ _ _ _ _ _ _ = _
    unfold fX8_runsOver_B26 fX6_count
    rw [bn_s, if_pos (by rw [nI_leI (by omega) (by omega)]; omega), ovL, Nat.add_zero]
    rfl
  | cons x t ih =>
    intro pre z c hl hz
    rw [List.length_cons] at hz
    obtain ⟨z, rfl⟩ : ∃ y, z = y + 1 := ⟨z - 1, by omega⟩
    have h1 := len_app hl
    rw [List.length_cons] at h1
    obtain ⟨a1, a2, a3⟩ := Hold_at hH hl
    obtain ⟨r1, r2⟩ := RuL_at hl
    obtain ⟨e1, e2, e3, e4⟩ := rE_spec (w := w) (n := n) (s := x.1) (p := x.2) (by have := r1.2.1; omega)
    have hx := r1.2.1
    have go := fun c => ih (pre ++ [x]) z c (app_one hl) (by omega)
    rw [len_one] at go
    show fX8_runsOver_B26 N _ _ _ _ _ _ _ _ _ _ = _
    unfold fX8_runsOver_B26 fX6_count fX6_start fX6_end fX8_runsOver_J64
    rw [bn_s, if_neg (by rw [nI_leI (by omega) (by omega)]; omega), at_nI (by omega) (by decide), bn_s, bn_s, at_nI (by omega) (by decide), bn_s, bn_s, a1, a2, nI_1 pre.length, nI_1, ovL]
    by_cases c1 : p < x.1
    · rw [if_pos ((nI_ltI (by omega) (by omega)).mpr c1), if_neg (fun hh => by omega), Nat.zero_add]
      exact go c
    · rw [if_neg (by rw [nI_ltI (by omega) (by omega)]; exact c1)]
      by_cases c2 : rE w n x.1 x.2 ≤ p
      · rw [if_pos ((nI_leI (by omega) (by omega)).mpr c2), if_neg (fun hh => by omega), Nat.zero_add]
        exact go c
      · rw [if_neg (by rw [nI_leI (by omega) (by omega)]; exact c2), if_pos ⟨by omega, by omega⟩, ← Nat.add_assoc]
        exact go (c + 1)
/-! the sum of the runs' exponents -/
noncomputable def exL (w : Nat → Nat) (n : Nat) : List (Nat × Nat) → UInt64 → UInt64
  | [], v => v
  | x :: t, v => exL w n t (FP.dadd v (FP.ddiv (FP.i2d (nI (rE w n x.1 x.2 - x.1))) (FP.i2d (nI x.2))))
theorem nonan_0 : nonan FP.dconst0 = true := by decide
/-! sums -/
def su (f : Nat → Nat) : Nat → Nat → Nat
  | _, 0 => 0
  | k, d + 1 => f k + su f (k + 1) d
theorem su_congr {f g : Nat → Nat} : ∀ d k, (∀ j, k ≤ j → j < k + d → f j = g j) → su f k d = su g k d := by
  intro d
  induction d with
  | zero => intro k h; rfl
  | succ d ih =>
    intro k h
    rw [su, su, h k (by omega) (by omega), ih (k + 1) (fun j h1 h2 => h j (by omega) (by omega))]
theorem su_add (f g : Nat → Nat) : ∀ d k, su (fun j => f j + g j) k d = su f k d + su g k d := by
  intro d
  induction d with
  | zero => intro k; rfl
  | succ d ih =>
    intro k
    rw [su, su, su, ih (k + 1)]
    omega
theorem su_zero {f : Nat → Nat} : ∀ d k, (∀ j, k ≤ j → j < k + d → f j = 0) → su f k d = 0 := by
  intro d
  induction d with
  | zero => intro k h; rfl
  | succ d ih =>
    intro k h
    rw [su, h k (by omega) (by omega), ih (k + 1) (fun j h1 h2 => h j (by omega) (by omega))]
theorem su_app (f : Nat → Nat) : ∀ d k e, su f k (d + e) = su f k d + su f (k + d) e := by
  intro d
  induction d with
  | zero => intro k e; rw [Nat.zero_add, su, Nat.zero_add]; rfl
  | succ d ih =>
    intro k e
    rw [show d + 1 + e = (d + e) + 1 by omega, su, su, ih (k + 1) e, show k + (d + 1) = k + 1 + d by omega, ← Nat.add_assoc]
theorem su_swap (f : Nat → Nat → Nat) (m : Nat) : ∀ d k, su (fun s => su (fun p => f s p) 1 m) k d = su (fun p => su (fun s => f s p) k d) 1 m := by
  intro d
  induction d with
  | zero => intro k; exact (su_zero _ _ (fun j h1 h2 => rfl)).symm
  | succ d ih =>
    intro k
    rw [su, ih (k + 1), ← su_add]
    rfl
/-- a truth as 0 or 1, among numbers -/
noncomputable def nP (p : Prop) : Nat := @ite _ p (Classical.propDecidable p) 1 0
theorem nP_t {p : Prop} (h : p) : nP p = 1 := if_pos h
theorem nP_f {p : Prop} (h : ¬ p) : nP p = 0 := if_neg h
/-- the squares of a run -/
noncomputable def qR (w : Nat → Nat) (n s p : Nat) : Nat := rE w n s p - s - 2 * p + 1
noncomputable def gR (w : Nat → Nat) (n p s : Nat) : Nat := nP (isQ w n p s) * qR w n s p
theorem rE_next {w : Nat → Nat} {n s p : Nat} (h : s + 1 + p ≤ rE w n s p) (hn : s + p ≤ n) : rE w n (s + 1) p = rE w n s p := by
  obtain ⟨e1, e2, e3, e4⟩ := rE_spec (w := w) (n := n) (s := s) (p := p) hn
  have h1 := rE_ge (w := w) (n := n) (s := s + 1) (p := p) (e := rE w n s p) h e2 (per_sub e3 (by omega) (Nat.le_refl _))
  obtain ⟨f1, f2, f3, f4⟩ := rE_spec (w := w) (n := n) (s := s + 1) (p := p) (by omega)
  have h2 := rE_ge (w := w) (n := n) (s := s) (p := p) (e := rE w n (s + 1) p) (by omega) f2 (fun k k1 k2 => by
    by_cases e : k = s
    · rw [e]; exact e3 s (Nat.le_refl _) (by omega)
    · exact f3 k (by omega) k2)
  omega
theorem gR_step {w : Nat → Nat} {n s p : Nat} (hp : 1 ≤ p) : gR w n p s = nP (isQ w n p s) + nP (¬ isR w n (s + 1) p) * gR w n p (s + 1) := by
  have hR := isR_Q (w := w) (n := n) (s := s + 1) hp
  rw [Nat.add_sub_cancel] at hR
  unfold gR
  by_cases hq : isQ w n p s
  · have hno : ¬ isR w n (s + 1) p := fun hh => (hR.mp hh).2 ⟨by omega, hq⟩
    rw [nP_t hq, nP_t hno, Nat.one_mul, Nat.one_mul]
    have hper := isQ_per hp hq
    have hge : s + 2 * p ≤ rE w n s p := rE_ge (by omega) hq.1 hper
    obtain ⟨e1, e2, e3, e4⟩ := rE_spec (w := w) (n := n) (s := s) (p := p) (by have := hq.1; omega)
    by_cases c : s + 1 + 2 * p ≤ rE w n s p
    · have h1 := (lp_big hp e3 (Nat.le_refl s) hge).mpr hq.2
      have h2 : isQ w n p (s + 1) := ⟨by omega, (lp_big hp e3 (by omega) c).mp h1⟩
      rw [nP_t h2, Nat.one_mul]
      unfold qR
      rw [rE_next (by omega) (by have := hq.1; omega)]
      omega
    · have h2 : ¬ isQ w n p (s + 1) := by
        intro hh
        have h3 := isQ_per hp hh
        have := rE_ge (w := w) (n := n) (s := s) (p := p) (e := s + 1 + 2 * p) (by omega) hh.1 (fun k k1 k2 => by
          by_cases e : k = s
          · rw [e]; exact hper s (Nat.le_refl _) (by omega)
          · exact h3 k (by omega) k2)
        omega
      rw [nP_f h2, Nat.zero_mul]
      unfold qR
      omega
  · rw [nP_f hq, Nat.zero_mul, Nat.zero_add]
    by_cases h2 : isQ w n p (s + 1)
    · have hyes : isR w n (s + 1) p := hR.mpr ⟨h2, fun hh => hq hh.2⟩
      rw [nP_f (fun hh => hh hyes), Nat.zero_mul]
    · rw [nP_f h2, Nat.zero_mul, Nat.mul_zero]
theorem sq_one {w : Nat → Nat} {n p : Nat} (hp : 1 ≤ p) : ∀ d k, k + d = n → su (fun s => nP (isQ w n p s)) k d = su (fun s => nP (isR w n s p) * qR w n s p) k d + nP (¬ isR w n k p) * gR w n p k := by
  intro d
  induction d with
  | zero =>
    intro k hk
    have : ¬ isQ w n p k := fun hh => by have := hh.1; omega
    rw [su, su, gR, nP_f this, Nat.zero_mul, Nat.mul_zero]
  | succ d ih =>
    intro k hk
    have hstep := gR_step (w := w) (n := n) (s := k) hp
    rw [su, su, ih (k + 1) (by omega)]
    by_cases hr : isR w n k p
    · have hq : isQ w n p k := ((isR_Q hp).mp hr).1
      have hg : gR w n p k = qR w n k p := by rw [gR, nP_t hq, Nat.one_mul]
      rw [nP_f (p := ¬ isR w n k p) (fun hh => hh hr), Nat.zero_mul, nP_t hr, Nat.one_mul, ← hg, hstep]
      omega
    · rw [nP_t (p := ¬ isR w n k p) hr, Nat.one_mul, nP_f hr, Nat.zero_mul, hstep]
      omega
theorem sq_all {w : Nat → Nat} {n p : Nat} (hp : 1 ≤ p) : su (fun s => nP (isQ w n p s)) 0 n = su (fun s => nP (isR w n s p) * qR w n s p) 0 n := by
  rw [sq_one hp n 0 (by omega)]
  by_cases hr : isR w n 0 p
  · rw [nP_f (fun hh => hh hr), Nat.zero_mul, Nat.add_zero]
  · have hq : ¬ isQ w n p 0 := fun hh => hr ((isR_Q hp).mpr ⟨hh, fun hx => by omega⟩)
    rw [gR, nP_f hq, Nat.zero_mul, Nat.mul_zero, Nat.add_zero]
/-! the squares, over the runs and one by one -/
noncomputable def sqL (w : Nat → Nat) (n : Nat) : List (Nat × Nat) → Nat
  | [] => 0
  | x :: t => qR w n x.1 x.2 + sqL w n t
theorem sqL_app {w : Nat → Nat} {n : Nat} : ∀ l l2 : List (Nat × Nat), sqL w n (l ++ l2) = sqL w n l + sqL w n l2 := by
  intro l
  induction l with
  | nil => intro l2; rw [List.nil_append, sqL, Nat.zero_add]
  | cons x t ih => intro l2; rw [List.cons_append, sqL, sqL, ih l2, Nat.add_assoc]
theorem sqL_at {w : Nat → Nat} {n s : Nat} : ∀ d p, sqL w n (rAt w n s d p) = su (fun p => nP (isR w n s p) * qR w n s p) p d := by
  intro d
  induction d with
  | zero => intro p; rfl
  | succ d ih =>
    intro p
    rw [su]
    by_cases e : isR w n s p
    · rw [rAt_t e, sqL_app, ih (p + 1), nP_t e, Nat.one_mul]
      rfl
    · rw [rAt_f e, ih (p + 1), nP_f e, Nat.zero_mul, Nat.zero_add]
theorem su_more {f : Nat → Nat} {d : Nat} (hd : d ≤ 32) (h : ∀ p, 1 + d ≤ p → f p = 0) : su f 1 d = su f 1 32 := by
  have := su_app f d 1 (32 - d)
  rw [show d + (32 - d) = 32 by omega, su_zero (32 - d) (1 + d) (fun j h1 h2 => h j h1), Nat.add_zero] at this
  exact this.symm
theorem sqL_from {w : Nat → Nat} {n : Nat} (hn : n ≤ 64) : ∀ d s, s + d = n → sqL w n (rFrom w n d s) = su (fun s => su (fun p => nP (isR w n s p) * qR w n s p) 1 32) s d := by
  intro d
  induction d with
  | zero => intro s hs; rfl
  | succ d ih =>
    intro s hs
    rw [rFrom, sqL_app, su, ih (s + 1) (by omega), sqL_at, su_more (by omega) (fun p hp => by
      have : ¬ isR w n s p := fun hh => by have := hh.2.1; omega
      show nP (isR w n s p) * qR w n s p = 0
      rw [nP_f this, Nat.zero_mul])]
/-- how many squares begin at s -/
noncomputable def sqS (w : Nat → Nat) (n s : Nat) : Nat := su (fun p => nP (isQ w n p s)) 1 ((n - s) / 2)
theorem squares_eq {w : Nat → Nat} {n : Nat} (hn : n ≤ 64) : sqL w n (RuL w n) = su (fun s => sqS w n s) 0 n := by
  have h1 : su (fun s => sqS w n s) 0 n = su (fun s => su (fun p => nP (isQ w n p s)) 1 32) 0 n := su_congr _ _ (fun s h1 h2 => su_more (by omega) (fun p hp => by
    have : ¬ isQ w n p s := fun hh => by have := hh.1; omega
    exact nP_f this))
  have h0 : sqL w n (RuL w n) = su (fun s => su (fun p => nP (isR w n s p) * qR w n s p) 1 32) 0 n := sqL_from hn n 0 (by omega)
  rw [h0, h1, su_swap, su_swap]
  exact su_congr _ _ (fun p hp _ => (sq_all hp).symm)
theorem sqC_H {N n : Nat} {w : Nat → Nat} {Ta A B D : Nat → Int32} (hn : n ≤ 64) (hH : Hold w n (RuL w n) A B D) : ∀ (t pre : List (Nat × Nat)) z c, RuL w n = pre ++ t → t.length < z → fX8_squares_H15 N (nI n) Ta z (nI (RuL w n).length) A B D (nI c) (nI pre.length) = some (nI (c + sqL w n t), nI (RuL w n).length, A, B, D) := by
  have hlen := RuL_len (w := w) (n := n)
  intro t
  induction t with
  | nil =>
    intro pre z c hl hz
    obtain ⟨z, rfl⟩ : ∃ y, z = y + 1 := ⟨z - 1, by simp at hz; omega⟩
    have h1 := len_app hl
    simp only [List.length_nil] at h1
    show fX8_squares_B15 N _ _ _ _ _ _ _ _ _ = _
    unfold fX8_squares_B15 fX6_count
    rw [bn_s, if_pos (by rw [nI_leI (by omega) (by omega)]; omega), sqL, Nat.add_zero]
    rfl
  | cons x t ih =>
    intro pre z c hl hz
    rw [List.length_cons] at hz
    obtain ⟨z, rfl⟩ : ∃ y, z = y + 1 := ⟨z - 1, by omega⟩
    have h1 := len_app hl
    rw [List.length_cons] at h1
    obtain ⟨a1, a2, a3⟩ := Hold_at hH hl
    obtain ⟨r1, r2⟩ := RuL_at hl
    obtain ⟨e1, e2, e3, e4⟩ := rE_spec (w := w) (n := n) (s := x.1) (p := x.2) (by have := r1.2.1; omega)
    have hx := r1.2.2.1
    have hp := r1.1
    have go := ih (pre ++ [x]) z (c + qR w n x.1 x.2) (app_one hl) (by omega)
    rw [len_one] at go
    show fX8_squares_B15 N _ _ _ _ _ _ _ _ _ = _
    unfold fX8_squares_B15 fX6_count fX6_size fX6_leastPeriod
    rw [bn_s, if_neg (by rw [nI_leI (by omega) (by omega)]; omega), at_nI (by omega) (by decide), bn_s, at_nI (by omega) (by decide), bn_s, bn_s, at_nI (by omega) (by decide), bn_s, bn_s, a1, a2, a3, q_sub (by omega), mul2, q_sub (by omega), nI_1, nI_add, nI_1, sqL, show c + (rE w n x.1 x.2 - x.1 - 2 * x.2 + 1) = c + qR w n x.1 x.2 from rfl, show c + (qR w n x.1 x.2 + sqL w n t) = c + qR w n x.1 x.2 + sqL w n t by omega]
    exact go
theorem same_sq {w : Nat → Nat} {s h : Nat} : lf (fun k => w (s + k) ≠ w (s + h + k)) 0 h = h ↔ per w s (s + 2 * h) h := by
  obtain ⟨h1, h2, h3, h4⟩ := lf_spec (fun k => w (s + k) ≠ w (s + h + k)) h 0
  constructor
  · intro e k k1 k2
    rw [e] at h3
    have := Classical.byContradiction (h3 (k - s) (by omega) (by omega))
    rw [show s + (k - s) = k by omega, show s + h + (k - s) = k + h by omega] at this
    exact this
  · intro hp
    exact lf_eq (by omega) (by omega) (fun j j1 j2 hh => hh (by
      have := hp (s + j) (by omega) (by omega)
      rw [show s + j + h = s + h + j by omega] at this
      exact this)) (fun hh => by omega)
