/-! p47: what Lyndon words, factors, rotations, periods, suffixes and runs have to do with each other -/
section LYN
variable {w : Nat → Nat}
theorem LY_at {a b s : Nat} (h : LY false w a b) (h1 : a < s) (h2 : s < b) : ∃ k, s + k < b ∧ (∀ j, j < k → w (a + j) = w (s + j)) ∧ w (a + k) < w (s + k) := h s h1 h2
theorem LY_cat {a b c : Nat} (h1 : LY false w a b) (h2 : LY false w b c) (hab : a < b) (hbc : b < c) (hlt : PL false w a b b c) : LY false w a c := by
  have L1 : ∃ K, b + K < c ∧ (∀ j, j < K → w (a + j) = w (b + j)) ∧ w (a + K) < w (b + K) := by
    rcases hlt with ⟨k, k1, k2, k3, k4⟩ | ⟨k1, k2⟩
    · exact ⟨k, k2, k3, k4⟩
    · obtain ⟨k, c1, c2, c3⟩ := LY_at h2 (show b < b + (b - a) by omega) (by omega)
      refine ⟨(b - a) + k, by omega, fun j hj => ?_, ?_⟩
      · by_cases e : j < b - a
        · exact k2 j e
        · have := c2 (j - (b - a)) (by omega)
          rw [show a + j = b + (j - (b - a)) by omega, this]
          congr 1; omega
      · rw [show a + (b - a + k) = b + k by omega, show b + (b - a + k) = b + (b - a) + k by omega]
        exact c3
  obtain ⟨K, a1, a2, a3⟩ := L1
  intro s hs hsc
  show ∃ k, s + k < c ∧ (∀ j, j < k → w (a + j) = w (s + j)) ∧ w (a + k) < w (s + k)
  rcases Nat.lt_trichotomy s b with e | e | e
  · obtain ⟨k, c1, c2, c3⟩ := LY_at h1 hs e
    exact ⟨k, by omega, c2, c3⟩
  · subst e
    exact ⟨K, a1, a2, a3⟩
  · obtain ⟨k, c1, c2, c3⟩ := LY_at h2 e hsc
    rcases Nat.lt_trichotomy k K with q | q | q
    · exact ⟨k, c1, fun j hj => (a2 j (by omega)).trans (c2 j hj), by rw [a2 k q]; exact c3⟩
    · subst q
      exact ⟨k, c1, fun j hj => (a2 j hj).trans (c2 j hj), Nat.lt_trans a3 c3⟩
    · exact ⟨K, by omega, fun j hj => (a2 j hj).trans (c2 j (by omega)), by rw [← c2 K q]; exact a3⟩
theorem LY_noper {a b p : Nat} (h : LY false w a b) (hp : 1 ≤ p) (hpb : a + p < b) : ¬ per w a b p := by
  intro hper
  obtain ⟨k, c1, c2, c3⟩ := LY_at h (show a < a + p by omega) hpb
  have := hper (a + k) (by omega) (by omega)
  rw [show a + k + p = a + p + k by omega] at this
  omega
theorem LY_noborder {a m l : Nat} (h : LY false w a (a + m)) (hl : LB w a m l) : l = 0 := by
  obtain ⟨h1, h2, h3⟩ := hl
  rcases Nat.eq_zero_or_pos l with e | e
  · exact e
  · exfalso
    obtain ⟨k, c1, c2, c3⟩ := LY_at h (show a < a + m - l by omega) (by omega)
    have := h2 k (by omega)
    omega
/-! the least suffix of a part -/
theorem least_suffix {b : Nat} : ∀ d x, x + d = b → 1 ≤ d → ∃ t, x ≤ t ∧ t < b ∧ ∀ s, x ≤ s → s < b → s ≠ t → SL false w b t s := by
  intro d
  induction d with
  | zero => intro x h1 h2; omega
  | succ d ih =>
    intro x h1 h2
    rcases Nat.eq_zero_or_pos d with e | e
    · subst e
      exact ⟨x, by omega, by omega, fun s s1 s2 s3 => by omega⟩
    · obtain ⟨t, t1, t2, t3⟩ := ih (x + 1) (by omega) e
      rcases SL_tot false w (n := b) (i := x) (j := t) (by omega) (by omega) (by omega) with q | q
      · refine ⟨x, by omega, by omega, fun s s1 s2 s3 => ?_⟩
        by_cases e2 : s = t
        · rw [e2]; exact q
        · exact SL_trans q (t3 s (by omega) s2 e2)
      · refine ⟨t, by omega, t2, fun s s1 s2 s3 => ?_⟩
        by_cases e2 : s = x
        · rw [e2]; exact q
        · exact t3 s (by omega) s2 s3
theorem least_LY {b t : Nat} (h : ∀ s, t < s → s < b → SL false w b t s) : LY false w t b :=
  PL_LY.mp (fun s s1 s2 => h s (by omega) s2)
theorem LY_SL {t b s : Nat} (h : LY false w t b) (h1 : t < s) (h2 : s < b) : SL false w b t s := PL_LY.mpr h s (by omega) h2
/-- the first Lyndon suffix behind the first letter is the least of them -/
theorem std_least {a b S : Nat} (hab : a + 1 < b) (hS : S = lf (fun s => LY false w s b) (a + 1) (b - (a + 1) - 1)) : a < S ∧ S < b ∧ LY false w S b ∧ ∀ s, a < s → s < b → s ≠ S → SL false w b S s := by
  obtain ⟨s1, s2, s3, s4⟩ := lf_spec (fun s => LY false w s b) (b - (a + 1) - 1) (a + 1)
  rw [← hS] at s1 s2 s3 s4
  have hLS : LY false w S b := by
    by_cases e : S < a + 1 + (b - (a + 1) - 1)
    · exact s4 e
    · exact LY_one (by omega)
  obtain ⟨t, t1, t2, t3⟩ := least_suffix (w := w) (b := b) (b - (a + 1)) (a + 1) (by omega) (by omega)
  have hLt : LY false w t b := least_LY (fun s q1 q2 => t3 s (by omega) q2 (by omega))
  have hSt : S = t := by
    rcases Nat.lt_trichotomy S t with q | q | q
    · exact absurd (SL_trans (LY_SL hLS q t2) (t3 S (by omega) (by omega) (by omega))) SL_irr
    · exact q
    · exact absurd hLt (s3 t (by omega) q)
  subst hSt
  exact ⟨by omega, by omega, hLS, fun s q1 q2 q3 => t3 s (by omega) q2 q3⟩
theorem std_left {a b S : Nat} (h : LY false w a b) (h1 : a < S) (h2 : S < b) (h3 : ∀ s, a < s → s < b → s ≠ S → SL false w b S s) : LY false w a S := by
  intro s hs hsS
  show ∃ k, s + k < S ∧ (∀ j, j < k → w (a + j) = w (s + j)) ∧ w (a + k) < w (s + k)
  obtain ⟨k, c1, c2, c3⟩ := LY_at h hs (by omega)
  by_cases e : s + k < S
  · exact ⟨k, e, c2, c3⟩
  · exfalso
    have hSL : SL false w b (a + (S - s)) S := by
      refine Or.inl ⟨k - (S - s), by omega, by omega, fun j hj => ?_, ?_⟩
      · have := c2 (S - s + j) (by omega)
        rw [show a + (S - s) + j = a + (S - s + j) by omega, this]
        congr 1; omega
      · show w (a + (S - s) + (k - (S - s))) < w (S + (k - (S - s)))
        rw [show a + (S - s) + (k - (S - s)) = a + k by omega, show S + (k - (S - s)) = s + k by omega]
        exact c3
    by_cases q : a + (S - s) = S
    · rw [q] at hSL
      exact SL_irr hSL
    · exact SL_irr (SL_trans hSL (h3 (a + (S - s)) (by omega) (by omega) q))
theorem std_less {a b S : Nat} (h : LY false w a b) (h1 : a < S) (h2 : S < b) : PL false w a S S b := by
  obtain ⟨k, c1, c2, c3⟩ := LY_at h h1 h2
  by_cases e : a + k < S
  · exact Or.inl ⟨k, e, c1, c2, c3⟩
  · exact Or.inr ⟨by omega, fun j hj => c2 j (by omega)⟩
/-! factors -/
theorem fs_long {n : Nat} {f : Nat → Int32} (h : Rp n w f) {k : Nat} (hk : fs w n k < n) : IsLong false w (fs w n k) n (ll false w (fs w n k) n) :=
  (firstLength_ll (N := 100) (Tn := 0) (Nat.le_refl 100) h false (0 : Int32) (by simp) hk (Nat.le_refl n)).2
theorem fs_LY {n : Nat} {f : Nat → Int32} (h : Rp n w f) {k : Nat} (hk : fs w n k < n) : LY false w (fs w n k) (fs w n (k + 1)) := (fs_long h hk).2.2.1
theorem fs_mono {n F : Nat} (h2 : ∀ k, k < F → fs w n k < n ∧ fs w n k < fs w n (k + 1)) : ∀ i j, i ≤ j → j ≤ F → fs w n i ≤ fs w n j := by
  intro i j hij hj
  induction j with
  | zero => rw [show i = 0 by omega]; exact Nat.le_refl _
  | succ j ih =>
    by_cases e : i = j + 1
    · rw [e]; exact Nat.le_refl _
    · have := ih (by omega) (by omega)
      have := (h2 j (by omega)).2
      omega
theorem fs_order {n F i : Nat} {f : Nat → Int32} (h : Rp n w f) (h1 : fs w n F = n) (h2 : ∀ k, k < F → fs w n k < n ∧ fs w n k < fs w n (k + 1)) (hi : i + 1 < F) : ¬ PL false w (fs w n i) (fs w n (i + 1)) (fs w n (i + 1)) (fs w n (i + 2)) := by
  intro hlt
  have a1 := h2 i (by omega)
  have a2 : fs w n (i + 1) < n ∧ fs w n (i + 1) < fs w n (i + 2) := h2 (i + 1) hi
  have hl := LY_cat (fs_LY h a1.1) (fs_LY h a2.1) a1.2 a2.2 hlt
  have hb := fs_le h1 h2 (show i + 2 ≤ F by omega)
  have hg := (fs_long h a1.1).2.2.2 (fs w n (i + 2) - fs w n i) (by
    have e : fs w n (i + 1) = fs w n i + ll false w (fs w n i) n := rfl
    omega) (by omega)
  rw [show fs w n i + (fs w n (i + 2) - fs w n i) = fs w n (i + 2) by omega] at hg
  exact hg hl
theorem fs_over {n F i p : Nat} (h2 : ∀ k, k < F → fs w n k < n ∧ fs w n k < fs w n (k + 1)) (hi : i < F) (hp : fs w n i ≤ p) (hp2 : p < fs w n (i + 1)) : lf (fun k => p < fs w n (k + 1)) 0 (F - 1) = i := by
  refine lf_eq (by omega) (by omega) (fun j _ hj => ?_) (fun _ => hp2)
  have := fs_mono h2 (j + 1) i (by omega) (by omega)
  omega
theorem fs_last {n F q : Nat} {f : Nat → Int32} (h : Rp n w f) (h1 : fs w n F = n) (h2 : ∀ k, k < F → fs w n k < n ∧ fs w n k < fs w n (k + 1)) (hF : 1 ≤ F) (hq : q < n) (hmin : ∀ s, s < n → s ≠ q → SL false w n q s) : q = fs w n (F - 1) := by
  have hLq : LY false w q n := least_LY (fun s s1 s2 => hmin s s2 (by omega))
  have hup : ∀ k, k ≤ F - 1 → fs w n k ≤ q := by
    intro k
    induction k with
    | zero => intro _; show 0 ≤ q; omega
    | succ k ih =>
      intro hk
      have h3 := ih (by omega)
      have a1 := h2 k (by omega)
      have a2 := h2 (k + 1) (by omega)
      rcases Nat.lt_or_ge q (fs w n (k + 1)) with e | e
      · exfalso
        rcases Nat.eq_or_lt_of_le h3 with e2 | e2
        · have hg := (fs_long h a1.1).2.2.2 (n - fs w n k) (by
            have e3 : fs w n (k + 1) = fs w n k + ll false w (fs w n k) n := rfl
            omega) (by omega)
          rw [show fs w n k + (n - fs w n k) = n by omega, e2] at hg
          exact hg hLq
        · obtain ⟨j, c1, c2, c3⟩ := LY_at (fs_LY h a1.1) e2 e
          have hs : SL false w n (fs w n k) q := Or.inl ⟨j, by omega, by omega, c2, c3⟩
          exact SL_irr (SL_trans hs (hmin (fs w n k) a1.1 (by omega)))
      · exact e
  have h3 := hup (F - 1) (Nat.le_refl _)
  have a1 := h2 (F - 1) (by omega)
  rcases Nat.eq_or_lt_of_le h3 with e | e
  · exact e.symm
  · exfalso
    have hL := fs_LY h a1.1
    rw [show F - 1 + 1 = F by omega, h1] at hL
    exact SL_irr (SL_trans (LY_SL hL e hq) (hmin (fs w n (F - 1)) a1.1 (by omega)))
end LYN
section ROT
variable {w : Nat → Nat} {n : Nat} {f : Nat → Int32}
theorem RR_back {a b k s : Nat} (hab : a < b) (hk : k < b - a) (hr : rt w a b ≤ k) : (RR false w a (b - a) k s ↔ RR false w a (b - a) (k - rt w a b) s) ∧ (RR false w a (b - a) s k ↔ RR false w a (b - a) s (k - rt w a b)) := by
  have h1 : ∀ j, j < b - a → uu w a (b - a) (k + j) = uu w a (b - a) (k - rt w a b + j) := by
    intro j hj
    have := (rot_eq (w := w) hab (show k - rt w a b ≤ k by omega) hk).mpr (by
      rw [show k - (k - rt w a b) = rt w a b by omega, Nat.mod_self]) j hj
    show w (a + (k + j) % (b - a)) = w (a + (k - rt w a b + j) % (b - a))
    rw [Nat.add_comm k j, Nat.add_comm (k - rt w a b) j]
    exact this
  constructor
  · constructor
    · rintro ⟨i, i1, i2, i3⟩
      exact ⟨i, i1, fun j hj => (h1 j (by omega)).symm.trans (i2 j hj), by rw [← h1 i i1]; exact i3⟩
    · rintro ⟨i, i1, i2, i3⟩
      exact ⟨i, i1, fun j hj => (h1 j (by omega)).trans (i2 j hj), by rw [h1 i i1]; exact i3⟩
  · constructor
    · rintro ⟨i, i1, i2, i3⟩
      exact ⟨i, i1, fun j hj => (i2 j hj).trans (h1 j (by omega)), by rw [← h1 i i1]; exact i3⟩
    · rintro ⟨i, i1, i2, i3⟩
      exact ⟨i, i1, fun j hj => (i2 j hj).trans (h1 j (by omega)).symm, by rw [h1 i i1]; exact i3⟩
theorem lb_rt (h : Rp n w f) {a b : Nat} (hab : a < b) (hb : b ≤ n) : ∀ d k best, k + d = b - a → best < k → best < rt w a b → (∀ t, t < k → ¬ RR false w a (b - a) t best) → lb w a (b - a) d k best < rt w a b := by
  have hr0 := (rt_spec (w := w) hab).1
  intro d
  induction d with
  | zero => intro k best hk hb2 h0 h1; rw [lb]; exact h0
  | succ d ih =>
    intro k best hk hb2 h0 h1
    have hneg : ¬ 0 ≤ dv w a (b - a) k best ↔ RR false w a (b - a) k best := by
      rw [← dv_neg h hab hb, dv_RR h hab hb]
    rw [lb]
    by_cases e : 0 ≤ dv w a (b - a) k best
    · rw [if_pos e]
      refine ih (k + 1) best (by omega) (by omega) h0 (fun t ht => ?_)
      by_cases e2 : t = k
      · rw [e2]; exact fun hh => (hneg.mpr hh) e
      · exact h1 t (by omega)
    · rw [if_neg e]
      have hr := hneg.mp e
      have hkr : k < rt w a b := by
        rcases Nat.lt_or_ge k (rt w a b) with q | q
        · exact q
        · exact absurd ((RR_back hab (by omega) q).1.mp hr) (h1 _ (by omega))
      refine ih (k + 1) k (by omega) (by omega) hkr (fun t ht hh => ?_)
      by_cases e2 : t = k
      · rw [e2] at hh; exact RR_asym hh hh
      · exact h1 t (by omega) (RR_trans hh hr)
theorem gb_rt (h : Rp n w f) {a b : Nat} (hab : a < b) (hb : b ≤ n) : ∀ d k best, k + d = b - a → best < k → best < rt w a b → (∀ t, t < k → ¬ RR false w a (b - a) best t) → gb w a (b - a) d k best < rt w a b := by
  intro d
  induction d with
  | zero => intro k best hk hb2 h0 h1; rw [gb]; exact h0
  | succ d ih =>
    intro k best hk hb2 h0 h1
    have hneg : ¬ dv w a (b - a) k best ≤ 0 ↔ RR false w a (b - a) best k := by
      rw [← dv_RR h hab hb]
      rw [Int32.le_iff_toInt_le, Int32.lt_iff_toInt_lt]
      exact ⟨fun hh => by omega, fun hh => by omega⟩
    rw [gb]
    by_cases e : dv w a (b - a) k best ≤ 0
    · rw [if_pos e]
      refine ih (k + 1) best (by omega) (by omega) h0 (fun t ht => ?_)
      by_cases e2 : t = k
      · rw [e2]; exact fun hh => (hneg.mpr hh) e
      · exact h1 t (by omega)
    · rw [if_neg e]
      have hr := hneg.mp e
      have hkr : k < rt w a b := by
        rcases Nat.lt_or_ge k (rt w a b) with q | q
        · exact q
        · exact absurd ((RR_back hab (by omega) q).2.mp hr) (h1 _ (by have := (rt_spec (w := w) hab).1; omega))
      refine ih (k + 1) k (by omega) (by omega) hkr (fun t ht hh => ?_)
      by_cases e2 : t = k
      · rw [e2] at hh; exact RR_asym hh hh
      · exact h1 t (by omega) (RR_trans hr hh)
theorem least_rt (h : Rp n w f) {a b : Nat} (hab : a < b) (hb : b ≤ n) : lb w a (b - a) (b - a - 1) 1 0 < rt w a b :=
  lb_rt h hab hb _ _ _ (by omega) (by omega) (by have := (rt_spec (w := w) hab).1; omega) (fun t ht hh => by
    rw [show t = 0 by omega] at hh; exact RR_asym hh hh)
theorem greatest_rt (h : Rp n w f) {a b : Nat} (hab : a < b) (hb : b ≤ n) : gb w a (b - a) (b - a - 1) 1 0 < rt w a b :=
  gb_rt h hab hb _ _ _ (by omega) (by omega) (by have := (rt_spec (w := w) hab).1; omega) (fun t ht hh => by
    rw [show t = 0 by omega] at hh; exact RR_asym hh hh)
theorem lb_0RR (h : Rp n w f) {a b : Nat} (hab : a < b) (hb : b ≤ n) : lb w a (b - a) (b - a - 1) 1 0 = 0 ↔ ∀ j, 1 ≤ j → j < b - a → ¬ RR false w a (b - a) j 0 := by
  rw [lb_0 _ _ (by omega)]
  have hneg : ∀ j, ¬ 0 ≤ dv w a (b - a) j 0 ↔ RR false w a (b - a) j 0 := fun j => by
    rw [← dv_neg h hab hb, dv_RR h hab hb]
  constructor
  · intro hh j j1 j2 j3
    exact (hneg j).mpr j3 (hh j j1 (by omega))
  · intro hh j j1 j2
    exact Classical.byContradiction fun j3 => hh j j1 (by omega) ((hneg j).mp j3)
theorem uu_lo {a m x : Nat} (h : x < m) : uu w a m x = w (a + x) := by unfold uu; rw [Nat.mod_eq_of_lt h]
theorem uu_hi {a m x : Nat} (h : m ≤ x) (h2 : x < 2 * m) : uu w a m x = w (a + (x - m)) := by
  unfold uu; rw [Nat.mod_eq_sub_mod h, Nat.mod_eq_of_lt (by omega)]
theorem LY_neck (h : Rp n w f) {a b : Nat} (hab : a < b) (hb : b ≤ n) : LY false w a b ↔ (lb w a (b - a) (b - a - 1) 1 0 = 0 ∧ rt w a b = b - a) := by
  obtain ⟨r1, r2, r3, r4, r5⟩ := rt_spec (w := w) hab
  rw [lb_0RR h hab hb]
  constructor
  · intro hL
    refine ⟨fun j j1 j2 j3 => ?_, ?_⟩
    · obtain ⟨k, c1, c2, c3⟩ := LY_at hL (show a < a + j by omega) (by omega)
      have : RR false w a (b - a) 0 j := ⟨k, by omega, fun i hi => by
        rw [uu_lo (by omega), uu_lo (by omega), Nat.zero_add, c2 i hi]
        congr 1; omega, by
        show uu w a (b - a) (0 + k) < uu w a (b - a) (j + k)
        rw [uu_lo (by omega), uu_lo (by omega), Nat.zero_add, show a + (j + k) = a + j + k by omega]
        exact c3⟩
      exact RR_asym this j3
    · rcases Nat.lt_or_ge (rt w a b) (b - a) with q | q
      · exact absurd r4 (LY_noper hL r1 (by omega))
      · omega
  · rintro ⟨hmin, hrt⟩
    intro s hs hsb
    show ∃ k, s + k < b ∧ (∀ j, j < k → w (a + j) = w (s + j)) ∧ w (a + k) < w (s + k)
    have hrt2 : rt w a (a + (b - a)) = b - a := by rw [show a + (b - a) = b by omega]; exact hrt
    rcases RR_tot false (w := w) (i := a) (p := b - a) (s := s - a) (t := 0) (by omega) hrt2 (by omega) (by omega) with q | q
    · exact absurd q (hmin (s - a) (by omega) (by omega))
    · obtain ⟨k, c1, c2, c3⟩ := q
      have c3' : uu w a (b - a) (0 + k) < uu w a (b - a) (s - a + k) := c3
      by_cases e : s + k < b
      · refine ⟨k, e, fun j hj => ?_, ?_⟩
        · have := c2 j hj
          rw [uu_lo (by omega), uu_lo (by omega), Nat.zero_add, show a + (s - a + j) = s + j by omega] at this
          exact this
        · rw [uu_lo (by omega), uu_lo (by omega), Nat.zero_add, show a + (s - a + k) = s + k by omega] at c3'
          exact c3'
      · exfalso
        have hcut : ∀ j, b - s ≤ j → j ≤ k → uu w a (b - a) (0 + j) = uu w a (b - a) (b - s + (j - (b - s))) ∧ uu w a (b - a) (s - a + j) = uu w a (b - a) (0 + (j - (b - s))) := by
          intro j j1 j2
          constructor
          · congr 1; omega
          · rw [uu_hi (show b - a ≤ s - a + j by omega) (by omega), uu_lo (by omega)]
            congr 1; omega
        refine hmin (b - s) (by omega) (by omega) ⟨k - (b - s), by omega, fun j hj => ?_, ?_⟩
        · have h1 := hcut (b - s + j) (by omega) (by omega)
          have h2 := c2 (b - s + j) (by omega)
          rw [h1.1, h1.2, show b - s + j - (b - s) = j by omega] at h2
          exact h2
        · have h1 := hcut k (by omega) (Nat.le_refl k)
          rw [h1.1, h1.2] at c3'
          exact c3'
end ROT
section PER
variable {w : Nat → Nat}
theorem ct_one {P : Nat → Prop} {k d j : Nat} (h1 : k ≤ j) (h2 : j < k + d) (hj : P j) : 1 ≤ ct P k d := by
  have h3 := ct_add P (j - k) k (d - (j - k))
  rw [show j - k + (d - (j - k)) = d by omega, show k + (j - k) = j by omega] at h3
  obtain ⟨e, he⟩ : ∃ e, d - (j - k) = e + 1 := ⟨d - (j - k) - 1, by omega⟩
  rw [he, ct_t hj] at h3
  omega
theorem ct_mult {P : Nat → Prop} {p m : Nat} (hp : 1 ≤ p) (hP : ∀ c, 1 ≤ c → p * c ≤ m → P (p * c)) : ∀ c, p * c ≤ m → c ≤ ct P 1 (p * c) := by
  intro c
  induction c with
  | zero => intro _; omega
  | succ c ih =>
    intro h
    have e : p * (c + 1) = p * c + p := Nat.mul_succ p c
    have h1 := ih (by omega)
    have h2 := ct_add P (p * c) 1 p
    have h3 := ct_one (P := P) (k := 1 + p * c) (d := p) (j := p * (c + 1)) (by omega) (by omega) (hP (c + 1) (by omega) h)
    rw [e, h2]
    omega
theorem periods_many {a b : Nat} (hab : a < b) : (b - a) / lp w a b ≤ ct (per w a b) 1 (b - a) := by
  obtain ⟨l1, l2, l3, l4⟩ := lp_spec (w := w) hab
  have hm : lp w a b * ((b - a) / lp w a b) ≤ b - a := Nat.mul_div_le _ _
  have h1 := ct_mult (P := per w a b) (m := b - a) l1 (fun c c1 c2 k k1 k2 => per_mulc l3 c k k1 k2) _ hm
  have h2 := ct_add (per w a b) (lp w a b * ((b - a) / lp w a b)) 1 (b - a - lp w a b * ((b - a) / lp w a b))
  rw [show lp w a b * ((b - a) / lp w a b) + (b - a - lp w a b * ((b - a) / lp w a b)) = b - a by omega] at h2
  omega
/-! runs -/
def rlt (x y : Nat × Nat) : Prop := x.1 < y.1 ∨ (x.1 = y.1 ∧ x.2 < y.2)
theorem rAt_up {n s : Nat} : ∀ d p, List.Pairwise rlt (rAt w n s d p) := by
  intro d
  induction d with
  | zero => intro p; exact List.Pairwise.nil
  | succ d ih =>
    intro p
    by_cases e : isR w n s p
    · rw [rAt_t e]
      refine List.Pairwise.cons (fun x hx => ?_) (ih (p + 1))
      have h1 := rAt_mem _ _ _ hx
      exact Or.inr ⟨h1.1.symm, by have := h1.2.1; show p < x.2; omega⟩
    · rw [rAt_f e]; exact ih (p + 1)
theorem rFrom_up {n : Nat} : ∀ d s, List.Pairwise rlt (rFrom w n d s) := by
  intro d
  induction d with
  | zero => intro s; exact List.Pairwise.nil
  | succ d ih =>
    intro s
    rw [rFrom, List.pairwise_append]
    refine ⟨rAt_up _ _, ih _, fun x hx y hy => ?_⟩
    have h1 := (rAt_mem _ _ _ hx).1
    have h2 := (rFrom_mem _ _ _ hy).1
    exact Or.inl (by omega)
theorem RuL_up {n i : Nat} (h : i + 1 < (RuL w n).length) : rlt (RuL w n)[i] (RuL w n)[i + 1] :=
  List.pairwise_iff_getElem.mp (rFrom_up (w := w) (n := n) n 0) i (i + 1) (by have : (RuL w n).length = (rFrom w n n 0).length := rfl; omega) h (by omega)
theorem ovL_pos {n p : Nat} {x : Nat × Nat} (h1 : x.1 ≤ p) (h2 : p < rE w n x.1 x.2) : ∀ l : List (Nat × Nat), x ∈ l → 1 ≤ ovL w n p l := by
  intro l
  induction l with
  | nil => intro h; cases h
  | cons y t ih =>
    intro h
    rw [ovL]
    rcases List.mem_cons.mp h with e | e
    · rw [← e, if_pos ⟨h1, h2⟩]; omega
    · have := ih e; omega
theorem sqL_pos {n : Nat} : ∀ l : List (Nat × Nat), 0 < sqL w n l ↔ 0 < l.length := by
  intro l
  cases l with
  | nil => exact Iff.rfl
  | cons y t =>
    rw [sqL, List.length_cons]
    unfold qR
    omega
theorem run_left {n s p : Nat} (h : isR w n s p) (h0 : 0 < s) : ¬ per w (s - 1) (rE w n s p) p := by
  intro hp
  have h4 := h.2.2.2.1
  have h3 := h.2.2.1
  have h1 := h.1
  have := hp (s - 1) (Nat.le_refl _) (by omega)
  exact h4 ⟨h0, this⟩
theorem run_right {n s p : Nat} (h : isR w n s p) (h0 : rE w n s p < n) : ¬ per w s (rE w n s p + 1) p := by
  intro hp
  have e4 := (rE_spec (w := w) (n := n) (s := s) (p := p) (by have := h.2.1; omega)).2.2.2 h0
  have h3 := h.2.2.1
  have h1 := h.1
  have := hp (rE w n s p - p) (by omega) (by omega)
  rw [show rE w n s p - p + p = rE w n s p by omega] at this
  exact e4 this
end PER
