theorem Hold_at {w : Nat → Nat} {n : Nat} {l pre t : List (Nat × Nat)} {x : Nat × Nat} {A B D : Nat → Int32} (h : Hold w n l A B D) (hl : l = pre ++ x :: t) : A pre.length = nI x.1 ∧ B pre.length = nI (rE w n x.1 x.2) ∧ D pre.length = nI x.2 := by
  subst hl
  have := h pre.length (by rw [List.length_append, List.length_cons]; omega)
  rw [List.getElem_append_right (Nat.le_refl _)] at this
  simpa using this
theorem RuL_at {w : Nat → Nat} {n : Nat} {pre t : List (Nat × Nat)} {x : Nat × Nat} (hl : RuL w n = pre ++ x :: t) : isR w n x.1 x.2 ∧ pre.length + 1 + t.length ≤ n - 1 := by
  have h1 := RuL_len (w := w) (n := n)
  refine ⟨(rFrom_mem n 0 x (by
    show x ∈ RuL w n
    rw [hl, List.mem_append]
    exact Or.inr List.mem_cons_self)).2, ?_⟩
  rw [hl, List.length_append, List.length_cons] at h1
  omega
theorem app_one {l pre t : List (Nat × Nat)} {x : Nat × Nat} (hl : l = pre ++ x :: t) : l = (pre ++ [x]) ++ t := by rw [hl, List.append_assoc]; rfl
theorem len_one {pre : List (Nat × Nat)} {x : Nat × Nat} : (pre ++ [x]).length = pre.length + 1 := by rw [List.length_append, List.length_singleton]
theorem len_app {l pre t : List (Nat × Nat)} (hl : l = pre ++ t) : l.length = pre.length + t.length := by rw [hl, List.length_append]
/-! the runs over a place -/
noncomputable def ovL (w : Nat → Nat) (n p : Nat) : List (Nat × Nat) → Nat
  | [] => 0
  | x :: t => (if x.1 ≤ p ∧ p < rE w n x.1 x.2 then 1 else 0) + ovL w n p t
theorem ovC_H {N n p : Nat} {w : Nat → Nat} {Ta A B D : Nat → Int32} (hn : n ≤ 64) (hp : p < n) (hH : Hold w n (RuL w n) A B D) : ∀ (t pre : List (Nat × Nat)) z c, RuL w n = pre ++ t → t.length < z → fX8_runsOver_H26 N (nI n) Ta z (nI (RuL w n).length) A B D (nI p) (nI c) (nI pre.length) = some (.inr (nI (c + ovL w n p t), nI (RuL w n).length, A, B, D)) := by
  have hlen := RuL_len (w := w) (n := n)
  intro t
  induction t with
  | nil =>
    intro pre z c hl hz
    obtain ⟨z, rfl⟩ : ∃ y, z = y + 1 := ⟨z - 1, by simp at hz; omega⟩
    have h1 := len_app hl
    simp only [List.length_nil] at h1
    show fX8_runsOver_B26 N _ _ _ _ _ _ _ _ _ _ = _
    unfold fX8_runsOver_B26 fX6_count
    rw [bn_s, if_pos (by rw [nI_leI (by omega) (by omega)]; omega), ovL, Nat.add_zero]
    rfl
  | cons x t ih =>
    intro pre z c hl hz
    rw [List.length_cons] at hz
    obtain ⟨z, rfl⟩ : ∃ y, z = y + 1 := ⟨z - 1, by omega⟩
    have h1 := len_app hl
    rw [List.length_cons] at h1
    obtain ⟨a1, a2, a3⟩ := Hold_at hH hl
    obtain ⟨r1, r2⟩ := RuL_at hl
    obtain ⟨e1, e2, e3, e4⟩ := rE_spec (w := w) (n := n) (s := x.1) (p := x.2) (by have := r1.2.1; omega)
    have hx := r1.2.1
    have go := fun c => ih (pre ++ [x]) z c (app_one hl) (by omega)
    rw [len_one] at go
    show fX8_runsOver_B26 N _ _ _ _ _ _ _ _ _ _ = _
    unfold fX8_runsOver_B26 fX6_count fX6_start fX6_end fX8_runsOver_J64
    rw [bn_s, if_neg (by rw [nI_leI (by omega) (by omega)]; omega), at_nI (by omega) (by decide), bn_s, bn_s, at_nI (by omega) (by decide), bn_s, bn_s, a1, a2, nI_1 pre.length, nI_1, ovL]
    by_cases c1 : p < x.1
    · rw [if_pos ((nI_ltI (by omega) (by omega)).mpr c1), if_neg (fun hh => by omega), Nat.zero_add]
      exact go c
    · rw [if_neg (by rw [nI_ltI (by omega) (by omega)]; exact c1)]
      by_cases c2 : rE w n x.1 x.2 ≤ p
      · rw [if_pos ((nI_leI (by omega) (by omega)).mpr c2), if_neg (fun hh => by omega), Nat.zero_add]
        exact go c
      · rw [if_neg (by rw [nI_leI (by omega) (by omega)]; exact c2), if_pos ⟨by omega, by omega⟩, ← Nat.add_assoc]
        exact go (c + 1)
theorem ovM_H {N n p : Nat} {Mh : Int32} {w : Nat → Nat} {Mt A B D : Nat → Int32} (hn : n ≤ 64) (hp : p < n) (hH : Hold w n (RuL w n) A B D) : ∀ (t pre : List (Nat × Nat)) z c, RuL w n = pre ++ t → t.length < z → fX9_runsOver_H30 N (nI n) Mt z Mh (nI (RuL w n).length) A B D (nI p) (nI c) (nI pre.length) = some (nI (c + ovL w n p t), Mh, nI (RuL w n).length, A, B, D) := by
  have hlen := RuL_len (w := w) (n := n)
  intro t
  induction t with
  | nil =>
    intro pre z c hl hz
    obtain ⟨z, rfl⟩ : ∃ y, z = y + 1 := ⟨z - 1, by simp at hz; omega⟩
    have h1 := len_app hl
    simp only [List.length_nil] at h1
    show fX9_runsOver_B30 N _ _ _ _ _ _ _ _ _ _ _ = _
    unfold fX9_runsOver_B30
    rw [if_pos (by rw [nI_leI (by omega) (by omega)]; omega), ovL, Nat.add_zero]
    rfl
  | cons x t ih =>
    intro pre z c hl hz
    rw [List.length_cons] at hz
    obtain ⟨z, rfl⟩ : ∃ y, z = y + 1 := ⟨z - 1, by omega⟩
    have h1 := len_app hl
    rw [List.length_cons] at h1
    obtain ⟨a1, a2, a3⟩ := Hold_at hH hl
    obtain ⟨r1, r2⟩ := RuL_at hl
    obtain ⟨e1, e2, e3, e4⟩ := rE_spec (w := w) (n := n) (s := x.1) (p := x.2) (by have := r1.2.1; omega)
    have hx := r1.2.1
    have go := fun c => ih (pre ++ [x]) z c (app_one hl) (by omega)
    rw [len_one] at go
    show fX9_runsOver_B30 N _ _ _ _ _ _ _ _ _ _ _ = _
    unfold fX9_runsOver_B30 fX9_runsOver_J63 fX9_runsOver_J64
    rw [if_neg (by rw [nI_leI (by omega) (by omega)]; omega), q_inb128 (by omega), gd_t, gd_t, nI_clamp (by omega), a1, a2, nI_1 pre.length, q_1, q_0, nI_add, nI_add, Nat.add_zero, ovL]
    by_cases c1 : p < x.1
    · rw [if_pos ((nI_ltI (by omega) (by omega)).mpr c1), if_neg (fun hh => by omega), Nat.zero_add]
      exact go c
    · rw [if_neg (by rw [nI_ltI (by omega) (by omega)]; exact c1)]
      by_cases c2 : rE w n x.1 x.2 ≤ p
      · rw [if_pos ((nI_leI (by omega) (by omega)).mpr c2), if_neg (fun hh => by omega), Nat.zero_add]
        exact go c
      · rw [if_neg (by rw [nI_leI (by omega) (by omega)]; exact c2), if_pos ⟨by omega, by omega⟩, ← Nat.add_assoc]
        exact go (c + 1)
theorem ag_runsOver {N n : Nat} {Ta Mt : Nat → Int32} (hN : 100 ≤ N) (h : Two n Ta Mt) (Rn : Int32) (A B D : Nat → Int32) (Oa : Nat → Int64) (Mh Mm : Int32) (Ms Me Mp : Nat → Int32) (p1 : Int32) : ∃ c rn a b d oa r mm ms me mp, fL_runsOver N (nI n) Ta Rn A B D Oa p1 = some (c, rn, a, b, d, oa) ∧ fX9_runsOver N Mh (nI n) Mm Mt Ms Me Mp p1 = some (r, c, mm, ms, me, mp) ∧ (c = 0 → oa 0 = r.toInt64) := by
  have hn := h.le
  obtain ⟨w, hT, hM⟩ := h.rp
  have hlen := RuL_len (w := w) (n := n)
  unfold fL_runsOver fX8_runsOver fX9_runsOver fX2_count
  rw [bn_s]
  rcases place_cases N p1 n hn with ⟨p, rfl, hp, k1, k2⟩ | ⟨k1, k2⟩
  · obtain ⟨A2, B2, D2, g1, g2⟩ := rfind_nI hN hT Rn A B D
    obtain ⟨A3, B3, D3, m1, m2⟩ := lay_nI hN hM (0 : Int32) Mm Ms Me Mp
    have c1 := ovC_H (N := N) (Ta := Ta) hn hp g2 (RuL w n) [] N 0 rfl (by omega)
    have c2 := ovM_H (N := N) (Mt := Mt) (Mh := 0) hn hp m2 (RuL w n) [] N 0 rfl (by omega)
    rw [k1, k2, bx_r, bn_s, if_neg n1_0, g1, bn_s]
    unfold fX9_runsOver_J14
    rw [goesB, if_neg i10, m1, bn_s]
    rw [show (nI ([] : List (Nat × Nat)).length) = (0 : Int32) from rfl, ← q_0] at c1 c2
    rw [c1]
    exact ⟨_, _, _, _, _, _, _, _, _, _, _, rfl, c2, fun _ => oa_1 _ _⟩
  · rw [k1, k2, bn_s, if_pos n0_0]
    unfold fX9_runsOver_J14
    rw [goesB1, if_pos rfl]
    exact ⟨_, _, _, _, _, _, _, _, _, _, _, rfl, rfl, fun hh => absurd hh (by decide)⟩
/-! the sum of the runs' exponents -/
noncomputable def exL (w : Nat → Nat) (n : Nat) : List (Nat × Nat) → UInt64 → UInt64
  | [], v => v
  | x :: t, v => exL w n t (FP.dadd v (FP.ddiv (FP.i2d (nI (rE w n x.1 x.2 - x.1))) (FP.i2d (nI x.2))))
theorem exC_H {N n : Nat} {w : Nat → Nat} {Ta A B D : Nat → Int32} (hn : n ≤ 64) (hH : Hold w n (RuL w n) A B D) : ∀ (t pre : List (Nat × Nat)) z v, RuL w n = pre ++ t → t.length < z → nonan v = true → fX8_exponentsOfRuns_H15 N (nI n) Ta z (nI (RuL w n).length) A B D v (nI pre.length) = some (exL w n t v, nI (RuL w n).length, A, B, D) := by
  have hlen := RuL_len (w := w) (n := n)
  intro t
  induction t with
  | nil =>
    intro pre z v hl hz hv
    obtain ⟨z, rfl⟩ : ∃ y, z = y + 1 := ⟨z - 1, by simp at hz; omega⟩
    have h1 := len_app hl
    simp only [List.length_nil] at h1
    show fX8_exponentsOfRuns_B15 N _ _ _ _ _ _ _ _ _ = _
    unfold fX8_exponentsOfRuns_B15 fX6_count
    rw [bn_s, if_pos (by rw [nI_leI (by omega) (by omega)]; omega), exL]
    rfl
  | cons x t ih =>
    intro pre z v hl hz hv
    rw [List.length_cons] at hz
    obtain ⟨z, rfl⟩ : ∃ y, z = y + 1 := ⟨z - 1, by omega⟩
    have h1 := len_app hl
    rw [List.length_cons] at h1
    obtain ⟨a1, a2, a3⟩ := Hold_at hH hl
    obtain ⟨r1, r2⟩ := RuL_at hl
    obtain ⟨e1, e2, e3, e4⟩ := rE_spec (w := w) (n := n) (s := x.1) (p := x.2) (by have := r1.2.1; omega)
    have hx := r1.2.1
    have hp := r1.1
    have hadd := dadd_ok hv (fin_qn (a := rE w n x.1 x.2 - x.1) (b := x.2) (by omega) (by omega) hp)
    have go := ih (pre ++ [x]) z _ (app_one hl) (by omega) hadd
    rw [len_one] at go
    show fX8_exponentsOfRuns_B15 N _ _ _ _ _ _ _ _ _ = _
    unfold fX8_exponentsOfRuns_B15 fX6_count fX6_size fX6_leastPeriod
    rw [bn_s, if_neg (by rw [nI_leI (by omega) (by omega)]; omega), at_nI (by omega) (by decide), bn_s, at_nI (by omega) (by decide), bn_s, bn_s, at_nI (by omega) (by decide), bn_s, bn_s, a1, a2, a3, q_sub (by omega), quot_nI (by omega) (by omega) hp, bn_s, hadd, gd_t, nI_1, exL]
    exact go
theorem exM_H {N n : Nat} {Mh : Int32} {w : Nat → Nat} {Mt A B D : Nat → Int32} (hn : n ≤ 64) (hH : Hold w n (RuL w n) A B D) : ∀ (t pre : List (Nat × Nat)) z v, RuL w n = pre ++ t → t.length < z → nonan v = true → fX9_exponentsOfRuns_H13 N (nI n) Mt z Mh (nI (RuL w n).length) A B D v (nI pre.length) = some (exL w n t v, Mh, nI (RuL w n).length, A, B, D) := by
  have hlen := RuL_len (w := w) (n := n)
  intro t
  induction t with
  | nil =>
    intro pre z v hl hz hv
    obtain ⟨z, rfl⟩ : ∃ y, z = y + 1 := ⟨z - 1, by simp at hz; omega⟩
    have h1 := len_app hl
    simp only [List.length_nil] at h1
    show fX9_exponentsOfRuns_B13 N _ _ _ _ _ _ _ _ _ _ = _
    unfold fX9_exponentsOfRuns_B13
    rw [if_pos (by rw [nI_leI (by omega) (by omega)]; omega), exL]
    rfl
  | cons x t ih =>
    intro pre z v hl hz hv
    rw [List.length_cons] at hz
    obtain ⟨z, rfl⟩ : ∃ y, z = y + 1 := ⟨z - 1, by omega⟩
    have h1 := len_app hl
    rw [List.length_cons] at h1
    obtain ⟨a1, a2, a3⟩ := Hold_at hH hl
    obtain ⟨r1, r2⟩ := RuL_at hl
    obtain ⟨e1, e2, e3, e4⟩ := rE_spec (w := w) (n := n) (s := x.1) (p := x.2) (by have := r1.2.1; omega)
    have hx := r1.2.1
    have hp := r1.1
    have hadd := dadd_ok hv (fin_qn (a := rE w n x.1 x.2 - x.1) (b := x.2) (by omega) (by omega) hp)
    have go := ih (pre ++ [x]) z _ (app_one hl) (by omega) hadd
    rw [len_one] at go
    show fX9_exponentsOfRuns_B13 N _ _ _ _ _ _ _ _ _ _ = _
    unfold fX9_exponentsOfRuns_B13
    rw [if_neg (by rw [nI_leI (by omega) (by omega)]; omega), q_inb128 (by omega), gd_t, gd_t, gd_t, nI_clamp (by omega), a1, a2, a3, q_sub (by omega), nonan_qn (by omega) (by omega) hp, gd_t, hadd, gd_t, nI_1, exL]
    exact go
theorem nonan_0 : nonan FP.dconst0 = true := by decide
theorem ag_exponentsOfRuns {N n : Nat} {Ta Mt : Nat → Int32} (hN : 100 ≤ N) (h : Two n Ta Mt) (Rn : Int32) (A B D : Nat → Int32) (Mh Mm : Int32) (Ms Me Mp : Nat → Int32) : ∃ r rn a b d mm ms me mp, fX8_exponentsOfRuns N (nI n) Ta Rn A B D = some (r, rn, a, b, d) ∧ fX9_exponentsOfRuns N Mh (nI n) Mm Mt Ms Me Mp = some (r, (0 : Int32), mm, ms, me, mp) := by
  have hn := h.le
  obtain ⟨w, hT, hM⟩ := h.rp
  have hlen := RuL_len (w := w) (n := n)
  obtain ⟨A2, B2, D2, g1, g2⟩ := rfind_nI hN hT Rn A B D
  obtain ⟨A3, B3, D3, m1, m2⟩ := lay_nI hN hM (0 : Int32) Mm Ms Me Mp
  have c1 := exC_H (N := N) (Ta := Ta) hn g2 (RuL w n) [] N FP.dconst0 rfl (by omega) nonan_0
  have c2 := exM_H (N := N) (Mt := Mt) (Mh := 0) hn m2 (RuL w n) [] N FP.dconst0 rfl (by omega) nonan_0
  unfold fX8_exponentsOfRuns fX9_exponentsOfRuns
  rw [g1, m1, bn_s, bn_s]
  exact ⟨_, _, _, _, _, _, _, _, _, c1, c2⟩
/-! sums -/
def su (f : Nat → Nat) : Nat → Nat → Nat
  | _, 0 => 0
  | k, d + 1 => f k + su f (k + 1) d
theorem su_congr {f g : Nat → Nat} : ∀ d k, (∀ j, k ≤ j → j < k + d → f j = g j) → su f k d = su g k d := by
  intro d
  induction d with
  | zero => intro k h; rfl
  | succ d ih =>
    intro k h
    rw [su, su, h k (by omega) (by omega), ih (k + 1) (fun j h1 h2 => h j (by omega) (by omega))]
theorem su_add (f g : Nat → Nat) : ∀ d k, su (fun j => f j + g j) k d = su f k d + su g k d := by
  intro d
  induction d with
  | zero => intro k; rfl
  | succ d ih =>
    intro k
    rw [su, su, su, ih (k + 1)]
    omega
theorem su_zero {f : Nat → Nat} : ∀ d k, (∀ j, k ≤ j → j < k + d → f j = 0) → su f k d = 0 := by
  intro d
  induction d with
  | zero => intro k h; rfl
  | succ d ih =>
    intro k h
    rw [su, h k (by omega) (by omega), ih (k + 1) (fun j h1 h2 => h j (by omega) (by omega))]
theorem su_app (f : Nat → Nat) : ∀ d k e, su f k (d + e) = su f k d + su f (k + d) e := by
  intro d
  induction d with
  | zero => intro k e; rw [Nat.zero_add, su, Nat.zero_add]; rfl
  | succ d ih =>
    intro k e
    rw [show d + 1 + e = (d + e) + 1 by omega, su, su, ih (k + 1) e, show k + (d + 1) = k + 1 + d by omega, ← Nat.add_assoc]
theorem su_swap (f : Nat → Nat → Nat) (m : Nat) : ∀ d k, su (fun s => su (fun p => f s p) 1 m) k d = su (fun p => su (fun s => f s p) k d) 1 m := by
  intro d
  induction d with
  | zero => intro k; exact (su_zero _ _ (fun j h1 h2 => rfl)).symm
  | succ d ih =>
    intro k
    rw [su, ih (k + 1), ← su_add]
    rfl
/-- a truth as 0 or 1, among numbers -/
noncomputable def nP (p : Prop) : Nat := @ite _ p (Classical.propDecidable p) 1 0
theorem nP_t {p : Prop} (h : p) : nP p = 1 := if_pos h
theorem nP_f {p : Prop} (h : ¬ p) : nP p = 0 := if_neg h
/-- the squares of a run -/
noncomputable def qR (w : Nat → Nat) (n s p : Nat) : Nat := rE w n s p - s - 2 * p + 1
noncomputable def gR (w : Nat → Nat) (n p s : Nat) : Nat := nP (isQ w n p s) * qR w n s p
theorem rE_next {w : Nat → Nat} {n s p : Nat} (h : s + 1 + p ≤ rE w n s p) (hn : s + p ≤ n) : rE w n (s + 1) p = rE w n s p := by
  obtain ⟨e1, e2, e3, e4⟩ := rE_spec (w := w) (n := n) (s := s) (p := p) hn
  have h1 := rE_ge (w := w) (n := n) (s := s + 1) (p := p) (e := rE w n s p) h e2 (per_sub e3 (by omega) (Nat.le_refl _))
  obtain ⟨f1, f2, f3, f4⟩ := rE_spec (w := w) (n := n) (s := s + 1) (p := p) (by omega)
  have h2 := rE_ge (w := w) (n := n) (s := s) (p := p) (e := rE w n (s + 1) p) (by omega) f2 (fun k k1 k2 => by
    by_cases e : k = s
    · rw [e]; exact e3 s (Nat.le_refl _) (by omega)
    · exact f3 k (by omega) k2)
  omega
theorem gR_step {w : Nat → Nat} {n s p : Nat} (hp : 1 ≤ p) : gR w n p s = nP (isQ w n p s) + nP (¬ isR w n (s + 1) p) * gR w n p (s + 1) := by
  have hR := isR_Q (w := w) (n := n) (s := s + 1) hp
  rw [Nat.add_sub_cancel] at hR
  unfold gR
  by_cases hq : isQ w n p s
  · have hno : ¬ isR w n (s + 1) p := fun hh => (hR.mp hh).2 ⟨by omega, hq⟩
    rw [nP_t hq, nP_t hno, Nat.one_mul, Nat.one_mul]
    have hper := isQ_per hp hq
    have hge : s + 2 * p ≤ rE w n s p := rE_ge (by omega) hq.1 hper
    obtain ⟨e1, e2, e3, e4⟩ := rE_spec (w := w) (n := n) (s := s) (p := p) (by have := hq.1; omega)
    by_cases c : s + 1 + 2 * p ≤ rE w n s p
    · have h1 := (lp_big hp e3 (Nat.le_refl s) hge).mpr hq.2
      have h2 : isQ w n p (s + 1) := ⟨by omega, (lp_big hp e3 (by omega) c).mp h1⟩
      rw [nP_t h2, Nat.one_mul]
      unfold qR
      rw [rE_next (by omega) (by have := hq.1; omega)]
      omega
    · have h2 : ¬ isQ w n p (s + 1) := by
        intro hh
        have h3 := isQ_per hp hh
        have := rE_ge (w := w) (n := n) (s := s) (p := p) (e := s + 1 + 2 * p) (by omega) hh.1 (fun k k1 k2 => by
          by_cases e : k = s
          · rw [e]; exact hper s (Nat.le_refl _) (by omega)
          · exact h3 k (by omega) k2)
        omega
      rw [nP_f h2, Nat.zero_mul]
      unfold qR
      omega
  · rw [nP_f hq, Nat.zero_mul, Nat.zero_add]
    by_cases h2 : isQ w n p (s + 1)
    · have hyes : isR w n (s + 1) p := hR.mpr ⟨h2, fun hh => hq hh.2⟩
      rw [nP_f (fun hh => hh hyes), Nat.zero_mul]
    · rw [nP_f h2, Nat.zero_mul, Nat.mul_zero]
theorem sq_one {w : Nat → Nat} {n p : Nat} (hp : 1 ≤ p) : ∀ d k, k + d = n → su (fun s => nP (isQ w n p s)) k d = su (fun s => nP (isR w n s p) * qR w n s p) k d + nP (¬ isR w n k p) * gR w n p k := by
  intro d
  induction d with
  | zero =>
    intro k hk
    have : ¬ isQ w n p k := fun hh => by have := hh.1; omega
    rw [su, su, gR, nP_f this, Nat.zero_mul, Nat.mul_zero]
  | succ d ih =>
    intro k hk
    have hstep := gR_step (w := w) (n := n) (s := k) hp
    rw [su, su, ih (k + 1) (by omega)]
    by_cases hr : isR w n k p
    · have hq : isQ w n p k := ((isR_Q hp).mp hr).1
      have hg : gR w n p k = qR w n k p := by rw [gR, nP_t hq, Nat.one_mul]
      rw [nP_f (p := ¬ isR w n k p) (fun hh => hh hr), Nat.zero_mul, nP_t hr, Nat.one_mul, ← hg, hstep]
      omega
    · rw [nP_t (p := ¬ isR w n k p) hr, Nat.one_mul, nP_f hr, Nat.zero_mul, hstep]
      omega
theorem sq_all {w : Nat → Nat} {n p : Nat} (hp : 1 ≤ p) : su (fun s => nP (isQ w n p s)) 0 n = su (fun s => nP (isR w n s p) * qR w n s p) 0 n := by
  rw [sq_one hp n 0 (by omega)]
  by_cases hr : isR w n 0 p
  · rw [nP_f (fun hh => hh hr), Nat.zero_mul, Nat.add_zero]
  · have hq : ¬ isQ w n p 0 := fun hh => hr ((isR_Q hp).mpr ⟨hh, fun hx => by omega⟩)
    rw [gR, nP_f hq, Nat.zero_mul, Nat.mul_zero, Nat.add_zero]
/-! the squares, over the runs and one by one -/
noncomputable def sqL (w : Nat → Nat) (n : Nat) : List (Nat × Nat) → Nat
  | [] => 0
  | x :: t => qR w n x.1 x.2 + sqL w n t
theorem sqL_app {w : Nat → Nat} {n : Nat} : ∀ l l2 : List (Nat × Nat), sqL w n (l ++ l2) = sqL w n l + sqL w n l2 := by
  intro l
  induction l with
  | nil => intro l2; rw [List.nil_append, sqL, Nat.zero_add]
  | cons x t ih => intro l2; rw [List.cons_append, sqL, sqL, ih l2, Nat.add_assoc]
theorem sqL_at {w : Nat → Nat} {n s : Nat} : ∀ d p, sqL w n (rAt w n s d p) = su (fun p => nP (isR w n s p) * qR w n s p) p d := by
  intro d
  induction d with
  | zero => intro p; rfl
  | succ d ih =>
    intro p
    rw [su]
    by_cases e : isR w n s p
    · rw [rAt_t e, sqL_app, ih (p + 1), nP_t e, Nat.one_mul]
      rfl
    · rw [rAt_f e, ih (p + 1), nP_f e, Nat.zero_mul, Nat.zero_add]
theorem su_more {f : Nat → Nat} {d : Nat} (hd : d ≤ 32) (h : ∀ p, 1 + d ≤ p → f p = 0) : su f 1 d = su f 1 32 := by
  have := su_app f d 1 (32 - d)
  rw [show d + (32 - d) = 32 by omega, su_zero (32 - d) (1 + d) (fun j h1 h2 => h j h1), Nat.add_zero] at this
  exact this.symm
theorem sqL_from {w : Nat → Nat} {n : Nat} (hn : n ≤ 64) : ∀ d s, s + d = n → sqL w n (rFrom w n d s) = su (fun s => su (fun p => nP (isR w n s p) * qR w n s p) 1 32) s d := by
  intro d
  induction d with
  | zero => intro s hs; rfl
  | succ d ih =>
    intro s hs
    rw [rFrom, sqL_app, su, ih (s + 1) (by omega), sqL_at, su_more (by omega) (fun p hp => by
      have : ¬ isR w n s p := fun hh => by have := hh.2.1; omega
      show nP (isR w n s p) * qR w n s p = 0
      rw [nP_f this, Nat.zero_mul])]
/-- how many squares begin at s -/
noncomputable def sqS (w : Nat → Nat) (n s : Nat) : Nat := su (fun p => nP (isQ w n p s)) 1 ((n - s) / 2)
theorem squares_eq {w : Nat → Nat} {n : Nat} (hn : n ≤ 64) : sqL w n (RuL w n) = su (fun s => sqS w n s) 0 n := by
  have h1 : su (fun s => sqS w n s) 0 n = su (fun s => su (fun p => nP (isQ w n p s)) 1 32) 0 n := su_congr _ _ (fun s h1 h2 => su_more (by omega) (fun p hp => by
    have : ¬ isQ w n p s := fun hh => by have := hh.1; omega
    exact nP_f this))
  have h0 : sqL w n (RuL w n) = su (fun s => su (fun p => nP (isR w n s p) * qR w n s p) 1 32) 0 n := sqL_from hn n 0 (by omega)
  rw [h0, h1, su_swap, su_swap]
  exact su_congr _ _ (fun p hp _ => (sq_all hp).symm)
theorem sqC_H {N n : Nat} {w : Nat → Nat} {Ta A B D : Nat → Int32} (hn : n ≤ 64) (hH : Hold w n (RuL w n) A B D) : ∀ (t pre : List (Nat × Nat)) z c, RuL w n = pre ++ t → t.length < z → fX8_squares_H15 N (nI n) Ta z (nI (RuL w n).length) A B D (nI c) (nI pre.length) = some (nI (c + sqL w n t), nI (RuL w n).length, A, B, D) := by
  have hlen := RuL_len (w := w) (n := n)
  intro t
  induction t with
  | nil =>
    intro pre z c hl hz
    obtain ⟨z, rfl⟩ : ∃ y, z = y + 1 := ⟨z - 1, by simp at hz; omega⟩
    have h1 := len_app hl
    simp only [List.length_nil] at h1
    show fX8_squares_B15 N _ _ _ _ _ _ _ _ _ = _
    unfold fX8_squares_B15 fX6_count
    rw [bn_s, if_pos (by rw [nI_leI (by omega) (by omega)]; omega), sqL, Nat.add_zero]
    rfl
  | cons x t ih =>
    intro pre z c hl hz
    rw [List.length_cons] at hz
    obtain ⟨z, rfl⟩ : ∃ y, z = y + 1 := ⟨z - 1, by omega⟩
    have h1 := len_app hl
    rw [List.length_cons] at h1
    obtain ⟨a1, a2, a3⟩ := Hold_at hH hl
    obtain ⟨r1, r2⟩ := RuL_at hl
    obtain ⟨e1, e2, e3, e4⟩ := rE_spec (w := w) (n := n) (s := x.1) (p := x.2) (by have := r1.2.1; omega)
    have hx := r1.2.2.1
    have hp := r1.1
    have go := ih (pre ++ [x]) z (c + qR w n x.1 x.2) (app_one hl) (by omega)
    rw [len_one] at go
    show fX8_squares_B15 N _ _ _ _ _ _ _ _ _ = _
    unfold fX8_squares_B15 fX6_count fX6_size fX6_leastPeriod
    rw [bn_s, if_neg (by rw [nI_leI (by omega) (by omega)]; omega), at_nI (by omega) (by decide), bn_s, at_nI (by omega) (by decide), bn_s, bn_s, at_nI (by omega) (by decide), bn_s, bn_s, a1, a2, a3, q_sub (by omega), mul2, q_sub (by omega), nI_1, nI_add, nI_1, sqL, show c + (rE w n x.1 x.2 - x.1 - 2 * x.2 + 1) = c + qR w n x.1 x.2 from rfl, show c + (qR w n x.1 x.2 + sqL w n t) = c + qR w n x.1 x.2 + sqL w n t by omega]
    exact go
theorem same_sq {w : Nat → Nat} {s h : Nat} : lf (fun k => w (s + k) ≠ w (s + h + k)) 0 h = h ↔ per w s (s + 2 * h) h := by
  obtain ⟨h1, h2, h3, h4⟩ := lf_spec (fun k => w (s + k) ≠ w (s + h + k)) h 0
  constructor
  · intro e k k1 k2
    rw [e] at h3
    have := Classical.byContradiction (h3 (k - s) (by omega) (by omega))
    rw [show s + (k - s) = k by omega, show s + h + (k - s) = k + h by omega] at this
    exact this
  · intro hp
    exact lf_eq (by omega) (by omega) (fun j j1 j2 hh => hh (by
      have := hp (s + j) (by omega) (by omega)
      rw [show s + j + h = s + h + j by omega] at this
      exact this)) (fun hh => by omega)
theorem sq19_H {N n s : Nat} {Mh Mm : Int32} {w : Nat → Nat} {Mt : Nat → Int32} (hN : 100 ≤ N) (h : Rp n w Mt) (hs : s < n) (k9 : Int32 → Int32 → Int32 → Option (Int32 × Int32)) : ∀ d p z c, p + d = (n - s) / 2 + 1 → 1 ≤ p → d < z → fX9_squares_H19 N (nI n) Mm Mt k9 z Mh (nI c) (nI s) (nI p) = k9 Mh (nI (c + su (fun p => nP (isQ w n p s)) p d)) (nI (s + 1)) := by
  have hn := h.le
  intro d
  induction d with
  | zero =>
    intro p z c hp hp1 hz
    obtain ⟨z, rfl⟩ : ∃ y, z = y + 1 := ⟨z - 1, by omega⟩
    show fX9_squares_B19 N _ _ _ _ _ _ _ _ _ = _
    unfold fX9_squares_B19 fX9_squares_J89
    rw [mul2, nI_add, if_pos (by rw [nI_ltI (by omega) (by omega)]; omega), nI_1, su]
    rfl
  | succ d ih =>
    intro p z c hp hp1 hz
    obtain ⟨z, rfl⟩ : ∃ y, z = y + 1 := ⟨z - 1, by omega⟩
    have hsp : s + 2 * p ≤ n := by omega
    have hstep := same_nI (N := N) (Mh := Mh) (Mn := nI n) (Mm := Mm) hN h (a := s) (b := s + p) (c := s + p) (e := s + 2 * p) (by omega) (by omega) (by omega) hsp
    rw [show min (s + p - s) (s + 2 * p - (s + p)) = p by omega] at hstep
    obtain ⟨l1, l2, l3, l4⟩ := lf_spec (fun k => w (s + k) ≠ w (s + p + k)) p 0
    have hrt := rt_spec (w := w) (show s < s + p by omega)
    have hno : ¬ isQ w n p s → fX9_squares_J80 N (nI n) Mm Mt k9 (fX9_squares_H19 N (nI n) Mm Mt k9 z) Mh (nI s) (nI p) (nI c) = k9 Mh (nI (c + su (fun p => nP (isQ w n p s)) p (d + 1))) (nI (s + 1)) := by
      intro hh
      unfold fX9_squares_J80 fX9_squares_J81
      rw [nI_1, q_0, nI_add, Nat.add_zero, su, nP_f hh, Nat.zero_add]
      exact ih (p + 1) z c (by omega) (by omega) (by omega)
    have hgo : fX9_squares_H19 N (nI n) Mm Mt k9 (z + 1) Mh (nI c) (nI s) (nI p) = fX9_squares_B19 N (nI n) Mm Mt k9 (fX9_squares_H19 N (nI n) Mm Mt k9 z) Mh (nI c) (nI s) (nI p) := rfl
    rw [hgo]
    unfold fX9_squares_B19 fX9_squares_J56
    rw [mul2, nI_add, nI_add, if_neg (by rw [nI_ltI (by omega) (by omega)]; omega), hstep, bn_s]
    by_cases c1 : lf (fun k => w (s + k) ≠ w (s + p + k)) 0 p = p
    · have hper := same_sq.mp c1
      have hiff := per_rt hp1 hper
      rw [if_pos (by rw [c1]), if_neg (show ¬ (1 : Int32) = 0 by decide), rootM_nI hN h (by omega) (by omega), bn_s]
      by_cases c2 : rt w s (s + p) = p
      · have hq : isQ w n p s := ⟨hsp, hiff.mp c2⟩
        unfold fX9_squares_J81
        rw [if_pos (by rw [c2]), nI_1, nI_1, su, nP_t hq, ← Nat.add_assoc]
        exact ih (p + 1) z (c + 1) (by omega) (by omega) (by omega)
      · rw [if_neg (by rw [nI_eq (by omega) (by omega)]; exact c2)]
        exact hno (fun hh => c2 (hiff.mpr hh.2))
    · rw [if_neg (by rw [nI_eq (by omega) (by omega)]; exact c1), if_pos rfl]
      exact hno (fun hh => c1 (same_sq.mpr (isQ_per hp1 hh)))
theorem sq9_H {N n : Nat} {Mh Mm : Int32} {w : Nat → Nat} {Mt : Nat → Int32} (hN : 100 ≤ N) (h : Rp n w Mt) : ∀ d s z c, s + d = n → d < z → fX9_squares_H9 N (nI n) Mm Mt z Mh (nI c) (nI s) = some (nI (c + su (fun s => sqS w n s) s d), Mh) := by
  have hn := h.le
  intro d
  induction d with
  | zero =>
    intro s z c hs hz
    obtain ⟨z, rfl⟩ : ∃ y, z = y + 1 := ⟨z - 1, by omega⟩
    show fX9_squares_B9 N _ _ _ _ _ _ _ = _
    unfold fX9_squares_B9
    rw [if_pos (by rw [nI_leI (by omega) (by omega)]; omega), su, Nat.add_zero]
    rfl
  | succ d ih =>
    intro s z c hs hz
    obtain ⟨z, rfl⟩ : ∃ y, z = y + 1 := ⟨z - 1, by omega⟩
    show fX9_squares_B9 N _ _ _ _ _ _ _ = _
    unfold fX9_squares_B9
    rw [if_neg (by rw [nI_leI (by omega) (by omega)]; omega), q_1, sq19_H (N := N) hN h (show s < n by omega) _ ((n - s) / 2) 1 N c (by omega) (by omega) (by omega), ih (s + 1) z _ (by omega) (by omega), su, ← Nat.add_assoc]
    rfl
theorem ag_squares {N n : Nat} {Ta Mt : Nat → Int32} (hN : 100 ≤ N) (h : Two n Ta Mt) (Rn : Int32) (A B D : Nat → Int32) (Mh Mm : Int32) : ∃ r rn a b d, fX8_squares N (nI n) Ta Rn A B D = some (r, rn, a, b, d) ∧ fX9_squares N Mh (nI n) Mm Mt = some (r, (0 : Int32)) := by
  have hn := h.le
  obtain ⟨w, hT, hM⟩ := h.rp
  have hlen := RuL_len (w := w) (n := n)
  obtain ⟨A2, B2, D2, g1, g2⟩ := rfind_nI hN hT Rn A B D
  have c1 := sqC_H (N := N) (Ta := Ta) hn g2 (RuL w n) [] N 0 rfl (by omega)
  have c2 := sq9_H (N := N) (Mh := 0) (Mm := Mm) hN hM n 0 N 0 (by omega) (by omega)
  rw [squares_eq hn] at c1
  unfold fX8_squares fX9_squares
  rw [g1, bn_s]
  exact ⟨_, _, _, _, _, c1, c2⟩
