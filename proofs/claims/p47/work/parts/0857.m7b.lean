/-! roots: the weak theorem of Fine and Wilf -/
theorem per_diff {w : Nat → Nat} {a b p q : Nat} (hpq : p ≤ q) (h : a + p + q ≤ b) (hp : per w a b p) (hq : per w a b q) : per w a b (q - p) := by
  intro k h1 h2
  by_cases e : k + q < b
  · rw [hq k h1 e]
    have := hp (k + (q - p)) (by omega) (by omega)
    rw [show k + (q - p) + p = k + q by omega] at this
    exact this.symm
  · have h3 := hp (k - p) (by omega) (by omega)
    have h4 := hq (k - p) (by omega) (by omega)
    rw [show k - p + p = k by omega] at h3
    rw [show k - p + q = k + (q - p) by omega] at h4
    rw [← h3, h4]
theorem per_gcd {w : Nat → Nat} {a b : Nat} : ∀ s p q, p + q = s → 1 ≤ p → 1 ≤ q → a + p + q ≤ b → per w a b p → per w a b q → per w a b (Nat.gcd p q) := by
  intro s
  induction s using Nat.strongRecOn with
  | _ s ih =>
    intro p q hs hp hq hb h1 h2
    rcases Nat.lt_trichotomy p q with e | e | e
    · have := ih (p + (q - p)) (by omega) p (q - p) rfl hp (by omega) (by omega) h1 (per_diff (by omega) hb h1 h2)
      rw [Nat.gcd_sub_self_right (by omega)] at this
      exact this
    · rw [e, Nat.gcd_self]; exact h2
    · have := ih ((p - q) + q) (by omega) (p - q) q rfl (by omega) hq (by omega) (per_diff (by omega) (by omega) h2 h1) h2
      rw [Nat.gcd_sub_self_left (by omega)] at this
      exact this
/-- the length of the root -/
noncomputable def rt (w : Nat → Nat) (a b : Nat) : Nat := lf (fun d => (b - a) % d = 0 ∧ per w a b d) 1 (b - a - 1)
theorem rt_spec {w : Nat → Nat} {a b : Nat} (hab : a < b) : 1 ≤ rt w a b ∧ rt w a b ≤ b - a ∧ (b - a) % rt w a b = 0 ∧ per w a b (rt w a b) ∧ ∀ d, 1 ≤ d → d < rt w a b → ¬ ((b - a) % d = 0 ∧ per w a b d) := by
  obtain ⟨h1, h2, h3, h4⟩ := lf_spec (fun d => (b - a) % d = 0 ∧ per w a b d) (b - a - 1) 1
  have h5 : (b - a) % rt w a b = 0 ∧ per w a b (rt w a b) := by
    by_cases e : lf (fun d => (b - a) % d = 0 ∧ per w a b d) 1 (b - a - 1) < 1 + (b - a - 1)
    · exact h4 e
    · have : rt w a b = b - a := by unfold rt; omega
      rw [this, Nat.mod_self]
      exact ⟨rfl, per_all (by omega)⟩
  exact ⟨h1, by unfold rt; omega, h5.1, h5.2, h3⟩
theorem rt_eq {w : Nat → Nat} {a b r : Nat} (h1 : 1 ≤ r) (h2 : r ≤ b - a) (h3 : (b - a) % r = 0) (h4 : per w a b r) (h5 : ∀ d, 1 ≤ d → d < r → ¬ ((b - a) % d = 0 ∧ per w a b d)) : rt w a b = r := lf_eq h1 (by omega) h5 (fun _ => ⟨h3, h4⟩)
theorem rt_lp {w : Nat → Nat} {a b : Nat} (hab : a < b) : rt w a b = if (b - a) % lp w a b = 0 then lp w a b else b - a := by
  obtain ⟨l1, l2, l3, l4⟩ := lp_spec (w := w) hab
  by_cases e : (b - a) % lp w a b = 0
  · rw [if_pos e]
    exact rt_eq l1 l2 e l3 (fun d d1 d2 d3 => l4 d d1 d2 d3.2)
  · rw [if_neg e]
    refine rt_eq (by omega) (Nat.le_refl _) (Nat.mod_self _) (per_all (by omega)) (fun d d1 d2 d3 => ?_)
    -- a proper divisor that is a period
    have hd : lp w a b ≤ d := Classical.byContradiction fun hh => l4 d d1 (by omega) d3.2
    have hm : d ∣ b - a := Nat.dvd_of_mod_eq_zero d3.1
    obtain ⟨c, hc⟩ := hm
    have hc2 : 2 ≤ c := by
      rcases Nat.lt_or_ge c 2 with h | h
      · have : c = 0 ∨ c = 1 := by omega
        rcases this with h | h <;> rw [h] at hc <;> omega
      · exact h
    have h2d : 2 * d ≤ b - a := by
      rw [hc, Nat.mul_comm]
      exact Nat.mul_le_mul_left d hc2
    have hg := per_gcd (w := w) (a := a) (b := b) (lp w a b + d) (lp w a b) d rfl l1 d1 (by omega) l3 d3.2
    have hgl : Nat.gcd (lp w a b) d ∣ lp w a b := Nat.gcd_dvd_left _ _
    have hg1 : 1 ≤ Nat.gcd (lp w a b) d := Nat.gcd_pos_of_pos_left _ (by omega)
    have hg2 : Nat.gcd (lp w a b) d ≤ lp w a b := Nat.le_of_dvd (by omega) hgl
    have hg3 : Nat.gcd (lp w a b) d = lp w a b := by
      rcases Nat.lt_or_ge (Nat.gcd (lp w a b) d) (lp w a b) with h | h
      · exact absurd hg (l4 _ hg1 h)
      · omega
    have hdv : lp w a b ∣ d := by
      have := Nat.gcd_dvd_right (lp w a b) d
      rw [hg3] at this
      exact this
    exact e (Nat.mod_eq_zero_of_dvd (Nat.dvd_trans hdv ⟨c, hc⟩))
theorem rootC_nI {N n a b : Nat} {Tn : Int32} {w : Nat → Nat} {Ta : Nat → Int32} (hN : 100 ≤ N) (h : Rp n w Ta) (hab : a < b) (hb : b ≤ n) (Ba : Nat → Int32) : ∃ g, fX0_rootSize N Tn Ta Ba (nI a) (nI b) = some (nI (rt w a b), g) := by
  have hn := h.le
  obtain ⟨g, g1⟩ := leastPC_nI (Tn := Tn) hN h hab hb Ba
  obtain ⟨l1, l2, l3, l4⟩ := lp_spec (w := w) hab
  refine ⟨g, ?_⟩
  unfold fX0_rootSize
  rw [g1, bn_s, if_neg (nI_nle (by omega) (by omega)), q_nz (by omega) (by omega), gd_t, q_sub (by omega), pk_rem (by omega) (by omega) (by omega), rt_lp hab]
  have hm : (b - a) % lp w a b < lp w a b := Nat.mod_lt _ (by omega)
  unfold fX0_rootSize_J28 fX0_rootSize_J31
  by_cases e : (b - a) % lp w a b = 0
  · rw [if_pos e, if_pos (by rw [e]; rfl)]
  · rw [if_neg e, if_neg (by rw [nI_z (by omega)]; exact e), q_sub (by omega)]
/-! rotations that differ: as many as the root has letters -/
/-- a period of the part when it is written round and round -/
def PU (w : Nat → Nat) (a m d : Nat) : Prop := ∀ i, w (a + (i + d) % m) = w (a + i % m)
theorem PU_mul {w : Nat → Nat} {a m d : Nat} (h : PU w a m d) : ∀ c i, w (a + (i + d * c) % m) = w (a + i % m) := by
  intro c
  induction c with
  | zero => intro i; rw [Nat.mul_zero, Nat.add_zero]
  | succ c ih => intro i; rw [Nat.mul_succ, ← Nat.add_assoc, h (i + d * c), ih i]
theorem PU_gcd {w : Nat → Nat} {a m : Nat} : ∀ p q, PU w a m p → PU w a m q → PU w a m (Nat.gcd p q) := by
  intro p
  induction p using Nat.strongRecOn with
  | _ p ih =>
    intro q h1 h2
    by_cases e : p = 0
    · rw [e, Nat.gcd_zero_left]; exact h2
    · rw [Nat.gcd_rec]
      refine ih (q % p) (Nat.mod_lt _ (by omega)) p (fun i => ?_) h1
      have h3 := PU_mul h1 (q / p) (i + q % p)
      have h4 := Nat.mod_add_div q p
      rw [Nat.add_assoc, h4, h2 i] at h3
      exact h3.symm
theorem PU_m {w : Nat → Nat} {a m : Nat} : PU w a m m := fun i => by rw [Nat.add_mod_right]
theorem PU_per {w : Nat → Nat} {a b d : Nat} (h : PU w a (b - a) d) : per w a b d := by
  intro k h1 h2
  have := h (k - a)
  rw [Nat.mod_eq_of_lt (show k - a < b - a by omega), Nat.mod_eq_of_lt (show k - a + d < b - a by omega), show a + (k - a + d) = k + d by omega, show a + (k - a) = k by omega] at this
  exact this.symm
theorem per_PU {w : Nat → Nat} {a b r : Nat} (hab : a < b) (h1 : 1 ≤ r) (h0 : (b - a) % r = 0) (h : per w a b r) : PU w a (b - a) r := by
  intro i
  have himg := per_img (w := w) (a := a) (p := r) (e := b) h1 (fun x q1 q2 => by
    have := h (x - r) (by omega) (by omega)
    rw [show x - r + r = x by omega] at this
    exact this.symm)
  have m1 : (i + r) % (b - a) < b - a := Nat.mod_lt _ (by omega)
  have m2 : i % (b - a) < b - a := Nat.mod_lt _ (by omega)
  rw [himg ((i + r) % (b - a)) (by omega), himg (i % (b - a)) (by omega)]
  rw [Nat.mod_mod_of_dvd _ (Nat.dvd_of_mod_eq_zero h0), Nat.mod_mod_of_dvd _ (Nat.dvd_of_mod_eq_zero h0), Nat.add_mod_right]
theorem rot_eq {w : Nat → Nat} {a b s t : Nat} (hab : a < b) (hst : t ≤ s) (hs : s < b - a) : (∀ k, k < b - a → w (a + (k + s) % (b - a)) = w (a + (k + t) % (b - a))) ↔ (s - t) % rt w a b = 0 := by
  obtain ⟨r1, r2, r3, r4, r5⟩ := rt_spec (w := w) hab
  have hPU := per_PU hab r1 r3 r4
  constructor
  · intro h
    -- equal rotations: the difference is a period all round
    have h1 : ∀ k, w (a + (k + s) % (b - a)) = w (a + (k + t) % (b - a)) := by
      intro k
      have := h (k % (b - a)) (Nat.mod_lt _ (by omega))
      rw [Nat.mod_add_mod, Nat.mod_add_mod] at this
      exact this
    have h2 : PU w a (b - a) (s - t) := by
      intro i
      have h3 := h1 (i + (b - a) - t)
      rw [show i + (b - a) - t + s = i + (s - t) + (b - a) by omega, show i + (b - a) - t + t = i + (b - a) by omega, Nat.add_mod_right, Nat.add_mod_right] at h3
      exact h3
    have hg := PU_gcd (rt w a b) (s - t) hPU h2
    have g1 : Nat.gcd (rt w a b) (s - t) ∣ rt w a b := Nat.gcd_dvd_left _ _
    have g2 : 1 ≤ Nat.gcd (rt w a b) (s - t) := Nat.gcd_pos_of_pos_left _ (by omega)
    have g3 : Nat.gcd (rt w a b) (s - t) ≤ rt w a b := Nat.le_of_dvd (by omega) g1
    have g4 : (b - a) % Nat.gcd (rt w a b) (s - t) = 0 := Nat.mod_eq_zero_of_dvd (Nat.dvd_trans g1 (Nat.dvd_of_mod_eq_zero r3))
    have g5 : Nat.gcd (rt w a b) (s - t) = rt w a b := by
      rcases Nat.lt_or_ge (Nat.gcd (rt w a b) (s - t)) (rt w a b) with q | q
      · exact absurd ⟨g4, PU_per hg⟩ (r5 _ g2 q)
      · omega
    have g6 := Nat.gcd_dvd_right (rt w a b) (s - t)
    rw [g5] at g6
    exact Nat.mod_eq_zero_of_dvd g6
  · intro h k hk
    obtain ⟨c, hc⟩ := Nat.dvd_of_mod_eq_zero h
    have := PU_mul hPU c (k + t)
    rw [← hc, show k + t + (s - t) = k + s by omega] at this
    exact this
theorem dv_z {n : Nat} {w : Nat → Nat} {f : Nat → Int32} (h : Rp n w f) {a b s t : Nat} (hab : a < b) (hb : b ≤ n) : dv w a (b - a) s t = 0 ↔ ∀ k, k < b - a → w (a + (k + s) % (b - a)) = w (a + (k + t) % (b - a)) := by
  have hn := h.le
  obtain ⟨s1, s2, s3, s4⟩ := lf_spec (fun k => w (a + (k + s) % (b - a)) ≠ w (a + (k + t) % (b - a))) (b - a) 0
  unfold dv
  by_cases e : dk w a (b - a) s t < b - a
  · have m1 : (dk w a (b - a) s t + s) % (b - a) < b - a := Nat.mod_lt _ (by omega)
    have m2 : (dk w a (b - a) s t + t) % (b - a) < b - a := Nat.mod_lt _ (by omega)
    have e2 := s4 (by unfold dk at e; omega)
    rw [if_pos e]
    exact ⟨fun hh => absurd hh (diff_ne (h.b (by omega)) (h.b (by omega)) e2), fun hh => absurd (hh _ e) e2⟩
  · rw [if_neg e]
    refine ⟨fun _ k hk => ?_, fun _ => rfl⟩
    exact Classical.byContradiction (s3 k (by omega) (by unfold dk at e; omega))
theorem isNew_iff {n : Nat} {w : Nat → Nat} {f : Nat → Int32} (h : Rp n w f) {a b s : Nat} (hab : a < b) (hb : b ≤ n) (hs : s < b - a) : (∀ t, t < s → ¬ dv w a (b - a) s t = 0) ↔ s < rt w a b := by
  obtain ⟨r1, r2, r3, r4, r5⟩ := rt_spec (w := w) hab
  constructor
  · intro hh
    rcases Nat.lt_or_ge s (rt w a b) with q | q
    · exact q
    · refine absurd ((dv_z h hab hb).mpr ((rot_eq hab (by omega) hs).mpr ?_)) (hh (s - rt w a b) (by omega))
      rw [show s - (s - rt w a b) = rt w a b by omega, Nat.mod_self]
  · intro hh t ht h0
    have := (rot_eq hab (by omega) hs).mp ((dv_z h hab hb).mp h0)
    rw [Nat.mod_eq_of_lt (by omega)] at this
    omega
