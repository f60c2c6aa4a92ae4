/-! periods -/
def per (w : Nat → Nat) (a b p : Nat) : Prop := ∀ k, a ≤ k → k + p < b → w k = w (k + p)
theorem per_all {w : Nat → Nat} {a b p : Nat} (h : b ≤ a + p) : per w a b p := fun k h1 h2 => by omega
theorem keeps_H {N n b p : Nat} {Tn : Int32} {w : Nat → Nat} {Ta : Nat → Int32} (h : Rp n w Ta) (hb : b ≤ n) : ∀ d x z, b ≤ x + d → x ≤ 200 → p ≤ x → d < z → d ≤ 64 → fX2_keepsPeriod_H5 N Tn Ta z (nI b) (nI p) (nI x) = some (pI (∀ y, x ≤ y → y < b → w y = w (y - p))) := by
  have hn := h.le
  intro d
  induction d with
  | zero =>
    intro x z hx hx2 hp hz hd
    obtain ⟨z, rfl⟩ : ∃ y, z = y + 1 := ⟨z - 1, by omega⟩
    show fX2_keepsPeriod_B5 N _ _ _ _ _ _ = _
    unfold fX2_keepsPeriod_B5
    rw [if_pos (by rw [nI_leI (by omega) (by omega)]; omega), pI_t (fun y h1 h2 => by omega)]
    rfl
  | succ d ih =>
    intro x z hx hx2 hp hz hd
    obtain ⟨z, rfl⟩ : ∃ y, z = y + 1 := ⟨z - 1, by omega⟩
    show fX2_keepsPeriod_B5 N _ _ _ _ _ _ = _
    unfold fX2_keepsPeriod_B5
    by_cases e0 : b ≤ x
    · rw [if_pos (by rw [nI_leI (by omega) (by omega)]; omega), pI_t (fun y h1 h2 => by omega)]
      rfl
    · rw [if_neg (by rw [nI_leI (by omega) (by omega)]; omega), q_sub hp, at_nI (by omega) (by decide), bn_s, at_nI (by omega) (by decide), bn_s, h.at (by omega), h.at (by omega), nI_1]
      by_cases e : w x = w (x - p)
      · rw [if_pos (by rw [e]), ih (x + 1) z (by omega) (by omega) (by omega) (by omega) (by omega)]
        exact congrArg some (pI_iff ⟨fun hp2 y h1 h2 => by
          by_cases e2 : y = x
          · rw [e2]; exact e
          · exact hp2 y (by omega) h2, fun hp2 y h1 h2 => hp2 y (by omega) h2⟩)
      · rw [if_neg (by rw [h.eq (by omega) (by omega)]; exact e), pI_f (fun hh => e (hh x (by omega) (by omega)))]
        rfl
theorem keeps_nI {N n a b p : Nat} {Tn : Int32} {w : Nat → Nat} {Ta : Nat → Int32} (hN : 100 ≤ N) (h : Rp n w Ta) (hab : a < b) (hb : b ≤ n) (hp : p ≤ 100) : fX2_keepsPeriod N Tn Ta (nI a) (nI b) (nI p) = some (pI (per w a b p)) := by
  have hn := h.le
  unfold fX2_keepsPeriod
  rw [nI_add, keeps_H h hb 64 (a + p) N (by omega) (by omega) (by omega) (by omega) (by omega)]
  exact congrArg some (pI_iff ⟨fun hh k h1 h2 => by
    have := hh (k + p) (by omega) h2
    rw [show k + p - p = k by omega] at this
    exact this.symm, fun hh y h1 h2 => by
    have := hh (y - p) (by omega) (by omega)
    rw [show y - p + p = y by omega] at this
    exact this.symm⟩)
noncomputable def lp (w : Nat → Nat) (a b : Nat) : Nat := lf (per w a b) 1 (b - a - 1)
theorem lp_spec {w : Nat → Nat} {a b : Nat} (hab : a < b) : 1 ≤ lp w a b ∧ lp w a b ≤ b - a ∧ per w a b (lp w a b) ∧ ∀ p, 1 ≤ p → p < lp w a b → ¬ per w a b p := by
  obtain ⟨h1, h2, h3, h4⟩ := lf_spec (per w a b) (b - a - 1) 1
  refine ⟨h1, by unfold lp; omega, ?_, h3⟩
  by_cases e : lf (per w a b) 1 (b - a - 1) < 1 + (b - a - 1)
  · exact h4 e
  · exact per_all (by unfold lp; omega)
theorem lp_eq {w : Nat → Nat} {a b r : Nat} (h1 : 1 ≤ r) (h2 : r ≤ b - a) (h3 : per w a b r) (h4 : ∀ p, 1 ≤ p → p < r → ¬ per w a b p) : lp w a b = r := lf_eq h1 (by omega) h4 (fun _ => h3)
theorem firstC_H {N n a b : Nat} {Tn : Int32} {w : Nat → Nat} {Ta : Nat → Int32} (hN : 100 ≤ N) (h : Rp n w Ta) (hab : a < b) (hb : b ≤ n) : ∀ d p z, p + d = b - a → d < z → fX2_firstPeriod_H2 N Tn Ta z (nI a) (nI b) (nI p) = some (nI (lf (per w a b) p d)) := by
  have hn := h.le
  intro d
  induction d with
  | zero =>
    intro p z hp hz
    obtain ⟨z, rfl⟩ : ∃ y, z = y + 1 := ⟨z - 1, by omega⟩
    show fX2_firstPeriod_B2 N _ _ _ _ _ _ = _
    unfold fX2_firstPeriod_B2
    rw [q_sub (by omega), if_pos (by rw [nI_leI (by omega) (by omega)]; omega), lf_0]
    rfl
  | succ d ih =>
    intro p z hp hz
    obtain ⟨z, rfl⟩ : ∃ y, z = y + 1 := ⟨z - 1, by omega⟩
    show fX2_firstPeriod_B2 N _ _ _ _ _ _ = _
    unfold fX2_firstPeriod_B2
    rw [q_sub (by omega), if_neg (by rw [nI_leI (by omega) (by omega)]; omega), keeps_nI hN h hab hb (by omega), bn_s, nI_1]
    by_cases e : per w a b p
    · rw [if_neg (by rw [pI_z]; exact fun hh => hh e), lf_t e]
      rfl
    · rw [if_pos (by rw [pI_z]; exact e), lf_f e]
      exact ih (p + 1) z (by omega) (by omega)
theorem firstC_nI {N n a b : Nat} {Tn : Int32} {w : Nat → Nat} {Ta : Nat → Int32} (hN : 100 ≤ N) (h : Rp n w Ta) (hab : a < b) (hb : b ≤ n) : fX2_firstPeriod N Tn Ta (nI a) (nI b) = some (nI (lp w a b)) := by
  have hn := h.le
  exact firstC_H hN h hab hb (b - a - 1) 1 N (by omega) (by omega)
/-! borders -/
def Bd (w : Nat → Nat) (a m l : Nat) : Prop := ∀ j, j < l → w (a + j) = w (a + m - l + j)
def LB (w : Nat → Nat) (a m l : Nat) : Prop := l < m ∧ Bd w a m l ∧ ∀ g, l < g → g < m → ¬ Bd w a m g
theorem Bd_per {w : Nat → Nat} {a m l : Nat} (h : l ≤ m) : Bd w a m l ↔ per w a (a + m) (m - l) := by
  constructor
  · intro hb k h1 h2
    have := hb (k - a) (by omega)
    rw [show a + (k - a) = k by omega, show a + m - l + (k - a) = k + (m - l) by omega] at this
    exact this
  · intro hp j hj
    have := hp (a + j) (by omega) (by omega)
    rw [show a + j + (m - l) = a + m - l + j by omega] at this
    exact this
theorem LB.one {w : Nat → Nat} {a m l g : Nat} (h : LB w a m l) (h2 : LB w a m g) : l = g := by
  rcases Nat.lt_trichotomy l g with h3 | h3 | h3
  · exact absurd h2.2.1 (h.2.2 g h3 h2.1)
  · exact h3
  · exact absurd h.2.1 (h2.2.2 l h3 h.1)
theorem LB_lp {w : Nat → Nat} {a m l : Nat} (h : LB w a m l) : lp w a (a + m) = m - l := by
  refine lp_eq (by have := h.1; omega) (by omega) ((Bd_per (by have := h.1; omega)).mp h.2.1) (fun p h1 h2 hp => ?_)
  have h3 := h.1
  refine h.2.2 (m - p) (by omega) (by omega) ((Bd_per (by omega)).mpr ?_)
  rw [show m - (m - p) = p by omega]
  exact hp
theorem Bd_Bd {w : Nat → Nat} {a m l g : Nat} (hl : l ≤ m) (hg : g ≤ l) (h : Bd w a m l) : Bd w a l g ↔ Bd w a m g := by
  have key : ∀ j, j < g → w (a + l - g + j) = w (a + m - g + j) := by
    intro j hj
    have := h (l - g + j) (by omega)
    rw [show a + (l - g + j) = a + l - g + j by omega, show a + m - l + (l - g + j) = a + m - g + j by omega] at this
    exact this
  exact ⟨fun h2 j hj => (h2 j hj).trans (key j hj), fun h2 j hj => (h2 j hj).trans (key j hj).symm⟩
theorem wid_H {N n a p : Nat} {Tn : Int32} {w : Nat → Nat} {Ta Ba : Nat → Int32} (h : Rp n w Ta) (hp1 : 1 ≤ p) (hpn : a + p < n) (hr : ∀ q, 1 ≤ q → q ≤ p → ∃ l, Ba q = nI l ∧ LB w a q l) : ∀ β t z, β + t + 1 ≤ p → β < z → Bd w a p β → (∀ g, β < g → g < p → Bd w a p g → w (a + g) ≠ w (a + p)) → ∃ g, fX0_widened_H22 N Tn Ta Ba z (nI a) (nI p) (nI (w (a + p))) (nI β) (nI t) = some (nI g) ∧ LB w a (p + 1) g := by
  have hn := h.le
  intro β
  induction β using Nat.strongRecOn with
  | _ β ih =>
    intro t z hd hz h1 h2
    have hβ : β < p := by omega
    obtain ⟨z, rfl⟩ : ∃ y, z = y + 1 := ⟨z - 1, by omega⟩
    by_cases e : w (a + β) = w (a + p)
    · refine ⟨β + 1, ?_, by omega, fun j hj => ?_, fun g g1 g2 g3 => ?_⟩
      · have hj : fX0_widened_J63 N Tn Ta Ba (nI a) (nI (w (a + p))) (nI β) = some (nI (β + 1)) := by
          unfold fX0_widened_J63
          rw [nI_add, letter_nI (by omega), bn_s, h.at (by omega), if_pos (by rw [e]), nI_1]
          rfl
        show fX0_widened_B22 N _ _ _ _ _ _ _ _ _ = _
        unfold fX0_widened_B22
        rw [hj, if_neg (by rw [nI_leI (by omega) (by omega)]; omega)]
        by_cases q2 : nI β ≤ 0
        · rw [if_pos q2]
        · rw [if_neg q2, nI_add, letter_nI (by omega), bn_s, h.at (by omega), if_pos (by rw [e])]
      · by_cases e2 : j = β
        · rw [e2, show a + (p + 1) - (β + 1) + β = a + p by omega]; exact e
        · rw [show a + (p + 1) - (β + 1) + j = a + p - β + j by omega]; exact h1 j (by omega)
      · have g4 : Bd w a p (g - 1) := fun j hj => by
          have := g3 j (by omega)
          rw [show a + (p + 1) - g + j = a + p - (g - 1) + j by omega] at this
          exact this
        have g5 := g3 (g - 1) (by omega)
        rw [show a + (p + 1) - g + (g - 1) = a + p by omega] at g5
        exact h2 (g - 1) (by omega) (by omega) g4 g5
    · by_cases e0 : β = 0
      · refine ⟨0, ?_, by omega, fun j hj => by omega, fun g g1 g2 g3 => ?_⟩
        · have hj : fX0_widened_J63 N Tn Ta Ba (nI a) (nI (w (a + p))) (nI β) = some (nI 0) := by
            unfold fX0_widened_J63
            rw [nI_add, letter_nI (by omega), bn_s, h.at (by omega), if_neg (by rw [h.eq (by omega) (by omega)]; exact e)]
            rfl
          show fX0_widened_B22 N _ _ _ _ _ _ _ _ _ = _
          unfold fX0_widened_B22
          rw [hj, if_neg (by rw [nI_leI (by omega) (by omega)]; omega), if_pos (by rw [e0]; decide)]
        · have g4 : Bd w a p (g - 1) := fun j hj => by
            have := g3 j (by omega)
            rw [show a + (p + 1) - g + j = a + p - (g - 1) + j by omega] at this
            exact this
          have g5 := g3 (g - 1) (by omega)
          rw [show a + (p + 1) - g + (g - 1) = a + p by omega] at g5
          by_cases e3 : g - 1 = 0
          · rw [e3] at g5; rw [e0] at e; exact e g5
          · exact h2 (g - 1) (by omega) (by omega) g4 g5
      · obtain ⟨l, hl, hL⟩ := hr β (by omega) (by omega)
        have hl1 := hL.1
        obtain ⟨g, g1, g2⟩ := ih l (by omega) (t + 1) z (by omega) (by omega) ((Bd_Bd (by omega) (by omega) h1).mp hL.2.1) (fun g k1 k2 k3 => by
          rcases Nat.lt_trichotomy g β with q | q | q
          · exact absurd ((Bd_Bd (by omega) (by omega) h1).mpr k3) (hL.2.2 g k1 q)
          · rw [q]; exact e
          · exact h2 g q k2 k3)
        refine ⟨g, ?_, g2⟩
        show fX0_widened_B22 N _ _ _ _ _ _ _ _ _ = _
        unfold fX0_widened_B22
        rw [if_neg (by rw [nI_leI (by omega) (by omega)]; omega), if_neg (nI_nle (by omega) (by omega)), nI_add, letter_nI (by omega), bn_s, h.at (by omega), if_neg (by rw [h.eq (by omega) (by omega)]; exact e), at_nI (by omega) (by decide), bn_s, hl, nI_1]
        exact g1
theorem longest_Hc {N n a b : Nat} {Tn : Int32} {w : Nat → Nat} {Ta : Nat → Int32} (hN : 100 ≤ N) (h : Rp n w Ta) (hab : a < b) (hb : b ≤ n) : ∀ d k z (Ba : Nat → Int32), k + d = b - a → 1 ≤ k → d < z → (∀ q, 1 ≤ q → q ≤ k → ∃ l, Ba q = nI l ∧ LB w a q l) → ∃ l g, fX0_longest_H12 N Tn Ta z Ba (nI a) (nI b) (nI k) = some (nI l, g) ∧ LB w a (b - a) l ∧ ∀ q, 1 ≤ q → q ≤ b - a → ∃ l, g q = nI l ∧ LB w a q l := by
  have hn := h.le
  intro d
  induction d with
  | zero =>
    intro k z Ba hk hk1 hz hr
    obtain ⟨z, rfl⟩ : ∃ y, z = y + 1 := ⟨z - 1, by omega⟩
    have hkk : k = b - a := by omega
    obtain ⟨l, l1, l2⟩ := hr (b - a) (by omega) (by omega)
    refine ⟨l, Ba, ?_, l2, fun q h1 h2 => hr q h1 (by omega)⟩
    show fX0_longest_B12 N _ _ _ _ _ _ _ = _
    unfold fX0_longest_B12
    rw [q_sub (by omega), if_pos (by rw [nI_leI (by omega) (by omega)]; omega)]
    unfold fX0_longest_J45
    rw [q_sub (by omega), at_nI (by omega) (by decide), bn_s, l1]
  | succ d ih =>
    intro k z Ba hk hk1 hz hr
    obtain ⟨z, rfl⟩ : ∃ y, z = y + 1 := ⟨z - 1, by omega⟩
    obtain ⟨β, b1, b2⟩ := hr k hk1 (Nat.le_refl k)
    have hβ := b2.1
    obtain ⟨g, g1, g2⟩ := wid_H (N := N) (Tn := Tn) h hk1 (show a + k < n by omega) hr β 0 N (by omega) (by omega) b2.2.1 (fun g q1 q2 q3 => absurd q3 (b2.2.2 g q1 q2))
    obtain ⟨l, f, f1, f2, f3⟩ := ih (k + 1) z (upd Ba (k + 1) (nI g)) (by omega) (by omega) (by omega) (fun q h1 h2 => by
      by_cases e : q = k + 1
      · rw [e, pk_us]; exact ⟨g, rfl, g2⟩
      · rw [pk_un e]; exact hr q h1 (by omega))
    refine ⟨l, f, ?_, f2, f3⟩
    show fX0_longest_B12 N _ _ _ _ _ _ _ = _
    unfold fX0_longest_B12 fX0_widened
    rw [q_sub (by omega), if_neg (by rw [nI_leI (by omega) (by omega)]; omega), nI_add, letter_nI (by omega), bn_s, at_nI (by omega) (by decide), bn_s, b1, h.at (by omega), q_0, g1, bn_s, nI_1, put_nI (by omega) (by decide), bn_s]
    exact f1
theorem longestC_nI {N n a b : Nat} {Tn : Int32} {w : Nat → Nat} {Ta : Nat → Int32} (hN : 100 ≤ N) (h : Rp n w Ta) (hab : a < b) (hb : b ≤ n) (Ba : Nat → Int32) : ∃ l g, fX0_longest N Tn Ta Ba (nI a) (nI b) = some (nI l, g) ∧ LB w a (b - a) l ∧ ∀ q, 1 ≤ q → q ≤ b - a → ∃ l, g q = nI l ∧ LB w a q l := by
  have hn := h.le
  obtain ⟨l, g, h1, h2⟩ := longest_Hc (N := N) (Tn := Tn) hN h hab hb (b - a - 1) 1 N (upd Ba 1 (nI 0)) (by omega) (by omega) (by omega) (fun q q1 q2 => by
    have : q = 1 := by omega
    rw [this, pk_us]
    exact ⟨0, rfl, by omega, fun j hj => by omega, fun g g1 g2 => by omega⟩)
  refine ⟨l, g, ?_, h2⟩
  unfold fX0_longest
  rw [q_1, q_0, put_nI (by omega) (by decide), bn_s]
  exact h1
theorem LB_lp' {w : Nat → Nat} {a b l : Nat} (hab : a < b) (h : LB w a (b - a) l) : lp w a b = b - a - l := by
  have := LB_lp h
  rw [show a + (b - a) = b by omega] at this
  exact this
theorem leastPC_nI {N n a b : Nat} {Tn : Int32} {w : Nat → Nat} {Ta : Nat → Int32} (hN : 100 ≤ N) (h : Rp n w Ta) (hab : a < b) (hb : b ≤ n) (Ba : Nat → Int32) : ∃ g, fX0_leastPeriod N Tn Ta Ba (nI a) (nI b) = some (nI (lp w a b), g) := by
  have hn := h.le
  obtain ⟨l, g, h1, h2, h3⟩ := longestC_nI (Tn := Tn) hN h hab hb Ba
  refine ⟨g, ?_⟩
  have := h2.1
  unfold fX0_leastPeriod
  rw [h1, bn_s, LB_lp' hab h2, q_sub (by omega), q_sub (by omega)]
/-! counting -/
noncomputable def ct (P : Nat → Prop) : Nat → Nat → Nat
  | _, 0 => 0
  | k, d + 1 => @ite _ (P k) (Classical.propDecidable _) 1 0 + ct P (k + 1) d
theorem ct_0 (P : Nat → Prop) (k : Nat) : ct P k 0 = 0 := rfl
theorem ct_t {P : Nat → Prop} {k d : Nat} (h : P k) : ct P k (d + 1) = 1 + ct P (k + 1) d := by rw [ct, if_pos h]
theorem ct_f {P : Nat → Prop} {k d : Nat} (h : ¬ P k) : ct P k (d + 1) = ct P (k + 1) d := by rw [ct, if_neg h, Nat.zero_add]
theorem ct_add (P : Nat → Prop) : ∀ d k e, ct P k (d + e) = ct P k d + ct P (k + d) e := by
  intro d
  induction d with
  | zero => intro k e; rw [ct_0, Nat.zero_add, Nat.zero_add]; rfl
  | succ d ih =>
    intro k e
    rw [show d + 1 + e = (d + e) + 1 by omega, ct, ct, ih (k + 1) e, show k + (d + 1) = k + 1 + d by omega, ← Nat.add_assoc]
theorem ct_congr {P Q : Nat → Prop} : ∀ d k, (∀ j, k ≤ j → j < k + d → (P j ↔ Q j)) → ct P k d = ct Q k d := by
  intro d
  induction d with
  | zero => intro k h; rfl
  | succ d ih =>
    intro k h
    have h1 := ih (k + 1) (fun j h1 h2 => h j (by omega) (by omega))
    by_cases e : P k
    · rw [ct_t e, ct_t ((h k (by omega) (by omega)).mp e), h1]
    · rw [ct_f e, ct_f (fun hh => e ((h k (by omega) (by omega)).mpr hh)), h1]
theorem ct_le (P : Nat → Prop) : ∀ d k, ct P k d ≤ d := by
  intro d
  induction d with
  | zero => intro k; rw [ct_0]; omega
  | succ d ih =>
    intro k
    have := ih (k + 1)
    by_cases e : P k
    · rw [ct_t e]; omega
    · rw [ct_f e]; omega
theorem ct_none {P : Nat → Prop} : ∀ d k, (∀ j, k ≤ j → j < k + d → ¬ P j) → ct P k d = 0 := by
  intro d
  induction d with
  | zero => intro k h; rfl
  | succ d ih =>
    intro k h
    rw [ct_f (h k (by omega) (by omega)), ih (k + 1) (fun j h1 h2 => h j (by omega) (by omega))]
theorem ct_rev {P : Nat → Prop} {m : Nat} : ∀ d, d ≤ m → ct P (m + 1 - d) d = ct (fun l => P (m - l)) 0 d := by
  intro d
  induction d with
  | zero => intro h; rfl
  | succ d ih =>
    intro h
    have h1 := ct_add (fun l => P (m - l)) d 0 1
    rw [h1, ← ih (by omega), show m + 1 - (d + 1) = m - d by omega]
    have h2 : ct (fun l => P (m - l)) (0 + d) 1 = @ite _ (P (m - d)) (Classical.propDecidable _) 1 0 := by
      rw [ct, ct_0, Nat.add_zero, Nat.zero_add]
    rw [h2, ct, show m - d + 1 = m + 1 - d by omega, Nat.add_comm]
/-- how many borders a beginning has -/
noncomputable def nb (w : Nat → Nat) (a m : Nat) : Nat := ct (Bd w a m) 0 m
theorem nb_step {w : Nat → Nat} {a m l : Nat} (h : LB w a m l) : nb w a m = 1 + nb w a l := by
  have h1 := h.1
  unfold nb
  rw [show m = l + (1 + (m - l - 1)) by omega, ct_add, ct_add, ← show m = l + (1 + (m - l - 1)) by omega]
  rw [ct_congr (Q := Bd w a l) l 0 (fun j q1 q2 => (Bd_Bd (by omega) (by omega) h.2.1).symm)]
  rw [ct_none (P := Bd w a m) (m - l - 1) (0 + l + 1) (fun j q1 q2 => h.2.2 j (by omega) (by omega))]
  rw [ct_t (by rw [Nat.zero_add]; exact h.2.1), ct_0]
  omega
theorem nb_pos {w : Nat → Nat} {a m : Nat} (h : 1 ≤ m) : 1 ≤ nb w a m := by
  unfold nb
  obtain ⟨x, rfl⟩ : ∃ x, m = x + 1 := ⟨m - 1, by omega⟩
  rw [ct_t (fun j hj => by omega)]
  omega
theorem countAll_H {N n : Nat} {Tn : Int32} {w : Nat → Nat} {Ta Ba : Nat → Int32} {a m : Nat} (hm : m ≤ 64) (hr : ∀ q, 1 ≤ q → q ≤ m → ∃ l, Ba q = nI l ∧ LB w a q l) : ∀ l c z, l ≤ m → l < z → c + nb w a l ≤ 64 → 1 ≤ c → fX0_countAll_H12 N Tn Ta z Ba (nI l) (nI c) = some (nI (c + nb w a l), Ba) := by
  intro l
  induction l using Nat.strongRecOn with
  | _ l ih =>
    intro c z hl hz hc hc1
    obtain ⟨z, rfl⟩ : ∃ y, z = y + 1 := ⟨z - 1, by omega⟩
    by_cases e : l = 0
    · subst e
      show fX0_countAll_B12 N _ _ _ _ _ _ = _
      unfold fX0_countAll_B12
      rw [if_pos (show nI 0 ≤ 0 by decide)]
      show some (nI c, Ba) = _
      rw [show nb w a 0 = 0 from rfl, Nat.add_zero]
    · obtain ⟨g, g1, g2⟩ := hr l (by omega) hl
      have g3 := g2.1
      have hp := nb_pos (w := w) (a := a) (m := l) (by omega)
      have hs := nb_step g2
      show fX0_countAll_B12 N _ _ _ _ _ _ = _
      unfold fX0_countAll_B12
      rw [if_neg (nI_nle (by omega) (by omega)), if_neg (by rw [q_64, nI_leI (by omega) (by omega)]; omega), at_nI (by omega) (by decide), bn_s, g1, nI_1, ih g g3 (c + 1) z (by omega) (by omega) (by omega) (by omega)]
      rw [hs]
      congr 3
      omega
theorem nb_ct {w : Nat → Nat} {a b : Nat} (hab : a < b) : ct (per w a b) 1 (b - a) = nb w a (b - a) := by
  have h := ct_rev (P := per w a b) (m := b - a) (b - a) (Nat.le_refl _)
  rw [show b - a + 1 - (b - a) = 1 by omega] at h
  rw [h]
  refine ct_congr _ _ (fun j h1 h2 => ?_)
  have := Bd_per (w := w) (a := a) (m := b - a) (l := j) (by omega)
  rw [show a + (b - a) = b by omega] at this
  exact this.symm
/-! quotients of numbers up to 64 -/
theorem nonan_q : ∀ a : Fin 65, ∀ b : Fin 65, b.val = 0 ∨ nonan (FP.ddiv (FP.i2d (nI a.val)) (FP.i2d (nI b.val))) = true := by decide +kernel
theorem nonan_qn {a b : Nat} (ha : a ≤ 64) (hb : b ≤ 64) (h0 : 1 ≤ b) : nonan (FP.ddiv (FP.i2d (nI a)) (FP.i2d (nI b))) = true := by
  rcases nonan_q ⟨a, by omega⟩ ⟨b, by omega⟩ with h | h
  · exact absurd h (show ¬ b = 0 by omega)
  · exact h
theorem quot_nI {N a b : Nat} (ha : a ≤ 64) (hb : b ≤ 64) (h0 : 1 ≤ b) : fX8_quotient N (nI a) (nI b) = some (FP.ddiv (FP.i2d (nI a)) (FP.i2d (nI b))) := by
  unfold fX8_quotient
  rw [if_neg (nI_nle (by omega) (by omega)), nonan_qn ha hb h0, gd_t]
  rfl
