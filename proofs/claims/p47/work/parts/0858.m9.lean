/-! an injective map into fewer places -/
theorem inj_le : ∀ k m (f : Nat → Nat), (∀ i, i < k → f i < m) → (∀ i j, i < j → j < k → f i ≠ f j) → k ≤ m := by
  intro k
  induction k with
  | zero => intro m f h1 h2; omega
  | succ k ih =>
    intro m f h1 h2
    have hk := h1 k (by omega)
    have := ih (m - 1) (fun i => if f k < f i then f i - 1 else f i) (fun i hi => by
      have a1 := h1 i (by omega)
      have a2 := h2 i k hi (by omega)
      show (if f k < f i then f i - 1 else f i) < m - 1
      by_cases e : f k < f i
      · rw [if_pos e]; omega
      · rw [if_neg e]; omega) (fun i j hi hj => by
      have a2 := h2 i k (by omega) (by omega)
      have a3 := h2 j k hj (by omega)
      have a4 := h2 i j hi (by omega)
      show (if f k < f i then f i - 1 else f i) ≠ (if f k < f j then f j - 1 else f j)
      by_cases e : f k < f i
      · by_cases e2 : f k < f j
        · rw [if_pos e, if_pos e2]; omega
        · rw [if_pos e, if_neg e2]; omega
      · by_cases e2 : f k < f j
        · rw [if_neg e, if_pos e2]; omega
        · rw [if_neg e, if_neg e2]; omega)
    omega
theorem inj_sur {n r : Nat} {f : Nat → Nat} (hr : r < n) (h1 : ∀ i, i < n → f i < n) (h2 : ∀ i j, i < j → j < n → f i ≠ f j) : ∃ i, i < n ∧ f i = r := by
  refine Classical.byContradiction fun hh => ?_
  have h3 : ∀ i, i < n → f i ≠ r := fun i hi e => hh ⟨i, hi, e⟩
  have := inj_le n (n - 1) (fun i => if r < f i then f i - 1 else f i) (fun i hi => by
    have a1 := h1 i hi
    have a2 := h3 i hi
    show (if r < f i then f i - 1 else f i) < n - 1
    by_cases e : r < f i
    · rw [if_pos e]; omega
    · rw [if_neg e]; omega) (fun i j hi hj => by
    have a2 := h3 i (by omega)
    have a3 := h3 j hj
    have a4 := h2 i j hi hj
    show (if r < f i then f i - 1 else f i) ≠ (if r < f j then f j - 1 else f j)
    by_cases e : r < f i
    · by_cases e2 : r < f j
      · rw [if_pos e, if_pos e2]; omega
      · rw [if_pos e, if_neg e2]; omega
    · by_cases e2 : r < f j
      · rw [if_neg e, if_pos e2]; omega
      · rw [if_neg e, if_neg e2]; omega)
  omega
theorem ct_mono {P Q : Nat → Prop} : ∀ d k, (∀ j, k ≤ j → j < k + d → P j → Q j) → ct P k d ≤ ct Q k d := by
  intro d
  induction d with
  | zero => intro k h; exact Nat.le_refl _
  | succ d ih =>
    intro k h
    have h1 := ih (k + 1) (fun j h1 h2 => h j (by omega) (by omega))
    by_cases e : P k
    · rw [ct_t e, ct_t (h k (by omega) (by omega) e)]; omega
    · by_cases e2 : Q k
      · rw [ct_f e, ct_t e2]; omega
      · rw [ct_f e, ct_f e2]; omega
theorem ct_lt {P Q : Nat → Prop} : ∀ d k i, (∀ j, k ≤ j → j < k + d → P j → Q j) → k ≤ i → i < k + d → Q i → ¬ P i → ct P k d < ct Q k d := by
  intro d
  induction d with
  | zero => intro k i h h1 h2 h3 h4; omega
  | succ d ih =>
    intro k i h h1 h2 h3 h4
    by_cases e0 : i = k
    · subst e0
      have := ct_mono d (i + 1) (fun j h1 h2 => h j (by omega) (by omega))
      rw [ct_f h4, ct_t h3]; omega
    · have h5 := ih (k + 1) i (fun j h1 h2 => h j (by omega) (by omega)) (by omega) (by omega) h3 h4
      by_cases e : P k
      · rw [ct_t e, ct_t (h k (by omega) (by omega) e)]; omega
      · by_cases e2 : Q k
        · rw [ct_f e, ct_t e2]; omega
        · rw [ct_f e, ct_f e2]; omega
/-! suffixes in order -/
def SL (r : Bool) (w : Nat → Nat) (n i j : Nat) : Prop := PL r w i n j n
theorem SL_irr {r : Bool} {w : Nat → Nat} {n i : Nat} : ¬ SL r w n i i := by
  intro h
  rcases h with ⟨k, h1, h2, h3, h4⟩ | ⟨h1, h2⟩
  · exact ltR_irr h4
  · omega
theorem SL_trans {r : Bool} {w : Nat → Nat} {n i j l : Nat} (h : SL r w n i j) (h2 : SL r w n j l) : SL r w n i l := by
  rcases h with ⟨k, a1, a2, a3, a4⟩ | ⟨a1, a2⟩
  · rcases h2 with ⟨m, b1, b2, b3, b4⟩ | ⟨b1, b2⟩
    · rcases Nat.lt_trichotomy k m with e | e | e
      · refine Or.inl ⟨k, a1, by omega, fun x hx => (a3 x hx).trans (b3 x (by omega)), ?_⟩
        rw [← b3 k e]; exact a4
      · subst e
        exact Or.inl ⟨k, a1, b2, fun x hx => (a3 x hx).trans (b3 x hx), ltR_trans a4 b4⟩
      · refine Or.inl ⟨m, by omega, b2, fun x hx => (a3 x (by omega)).trans (b3 x hx), ?_⟩
        rw [a3 m e]; exact b4
    · refine Or.inl ⟨k, a1, by omega, fun x hx => (a3 x hx).trans (b2 x (by omega)), ?_⟩
      rw [← b2 k (by omega)]; exact a4
  · rcases h2 with ⟨m, b1, b2, b3, b4⟩ | ⟨b1, b2⟩
    · by_cases e : m < n - i
      · refine Or.inl ⟨m, by omega, b2, fun x hx => (a2 x (by omega)).trans (b3 x hx), ?_⟩
        rw [a2 m e]; exact b4
      · exact Or.inr ⟨by omega, fun x hx => (a2 x hx).trans (b3 x (by omega))⟩
    · exact Or.inr ⟨by omega, fun x hx => (a2 x hx).trans (b2 x (by omega))⟩
theorem SL_tot (r : Bool) (w : Nat → Nat) {n i j : Nat} (hi : i ≤ n) (hj : j ≤ n) (h : i ≠ j) : SL r w n i j ∨ SL r w n j i := by
  obtain ⟨s1, s2, s3, s4⟩ := lf_spec (fun k => w (i + k) ≠ w (j + k)) (min (n - i) (n - j)) 0
  generalize lf (fun k => w (i + k) ≠ w (j + k)) 0 (min (n - i) (n - j)) = k at s1 s2 s3 s4
  have s5 : ∀ x, x < k → w (i + x) = w (j + x) := fun x hx => Classical.byContradiction fun hh => s3 x (by omega) hx hh
  by_cases e : k < min (n - i) (n - j)
  · have h2 := s4 (by omega)
    rcases ltR_tri r (w (i + k)) (w (j + k)) with q | q | q
    · exact Or.inl (Or.inl ⟨k, by omega, by omega, s5, q⟩)
    · exact absurd q h2
    · exact Or.inr (Or.inl ⟨k, by omega, by omega, fun x hx => (s5 x hx).symm, q⟩)
  · rcases Nat.lt_or_ge (n - i) (n - j) with q | q
    · exact Or.inl (Or.inr ⟨q, fun x hx => s5 x (by omega)⟩)
    · exact Or.inr (Or.inr ⟨by omega, fun x hx => (s5 x (by omega)).symm⟩)
theorem SL_step {w : Nat → Nat} {n i j : Nat} (hi : i < n) (hj : j < n) : SL false w n i j ↔ (w i < w j ∨ (w i = w j ∧ SL false w n (i + 1) (j + 1))) := by
  constructor
  · intro h
    rcases h with ⟨k, h1, h2, h3, h4⟩ | ⟨h1, h2⟩
    · by_cases e : k = 0
      · rw [e] at h4; exact Or.inl h4
      · refine Or.inr ⟨h3 0 (by omega), Or.inl ⟨k - 1, by omega, by omega, fun x hx => ?_, ?_⟩⟩
        · have := h3 (x + 1) (by omega)
          rw [show i + 1 + x = i + (x + 1) by omega, show j + 1 + x = j + (x + 1) by omega]; exact this
        · rw [show i + 1 + (k - 1) = i + k by omega, show j + 1 + (k - 1) = j + k by omega]; exact h4
    · refine Or.inr ⟨h2 0 (by omega), Or.inr ⟨by omega, fun x hx => ?_⟩⟩
      have := h2 (x + 1) (by omega)
      rw [show i + 1 + x = i + (x + 1) by omega, show j + 1 + x = j + (x + 1) by omega]; exact this
  · intro h
    rcases h with h | ⟨h0, h⟩
    · exact Or.inl ⟨0, hi, hj, fun x hx => by omega, h⟩
    · rcases h with ⟨k, h1, h2, h3, h4⟩ | ⟨h1, h2⟩
      · refine Or.inl ⟨k + 1, by omega, by omega, fun x hx => ?_, ?_⟩
        · by_cases e : x = 0
          · rw [e]; exact h0
          · have := h3 (x - 1) (by omega)
            rw [show i + 1 + (x - 1) = i + x by omega, show j + 1 + (x - 1) = j + x by omega] at this; exact this
        · rw [show i + (k + 1) = i + 1 + k by omega, show j + (k + 1) = j + 1 + k by omega]; exact h4
      · refine Or.inr ⟨by omega, fun x hx => ?_⟩
        by_cases e : x = 0
        · rw [e]; exact h0
        · have := h2 (x - 1) (by omega)
          rw [show i + 1 + (x - 1) = i + x by omega, show j + 1 + (x - 1) = j + x by omega] at this; exact this
/-- the rank of the suffix j among those from q on -/
noncomputable def rk (w : Nat → Nat) (n q j : Nat) : Nat := ct (fun o => SL false w n o j) q (n - q)
theorem rk_lt {w : Nat → Nat} {n q i j : Nat} (hi : q ≤ i) (hin : i < n) (h : SL false w n i j) : rk w n q i < rk w n q j :=
  ct_lt _ _ i (fun o _ _ ho => SL_trans ho h) hi (by omega) h SL_irr
theorem rk_iff {w : Nat → Nat} {n q i j : Nat} (hi : q ≤ i) (hin : i < n) (hj : q ≤ j) (hjn : j < n) : rk w n q i < rk w n q j ↔ SL false w n i j := by
  constructor
  · intro h
    by_cases e : i = j
    · rw [e] at h; omega
    · rcases SL_tot false w (by omega : i ≤ n) (by omega : j ≤ n) e with q1 | q1
      · exact q1
      · have := rk_lt hj hjn q1; omega
  · exact rk_lt hi hin
theorem rk_le {w : Nat → Nat} {n q j : Nat} : rk w n q j ≤ n - q := ct_le _ _ _
theorem rk_self {w : Nat → Nat} {n p : Nat} (hp : p < n) : rk w n p p = ct (fun o => SL false w n o p) (p + 1) (n - (p + 1)) := by
  unfold rk
  rw [show n - p = (n - (p + 1)) + 1 by omega, ct_f (P := fun o => SL false w n o p) SL_irr]
theorem rk_more {w : Nat → Nat} {n p j : Nat} (hp : p < n) : rk w n p j = @ite _ (SL false w n p j) (Classical.propDecidable _) 1 0 + rk w n (p + 1) j := by
  unfold rk
  rw [show n - p = (n - (p + 1)) + 1 by omega, ct]
theorem rk_ge {w : Nat → Nat} {n p j : Nat} (hp : p < j) (hj : j < n) : rk w n p p ≤ rk w n (p + 1) j ↔ SL false w n p j := by
  rw [rk_self (by omega)]
  constructor
  · intro h
    rcases SL_tot false w (by omega : p ≤ n) (by omega : j ≤ n) (by omega) with q1 | q1
    · exact q1
    · have := ct_lt (P := fun o => SL false w n o j) (Q := fun o => SL false w n o p) (n - (p + 1)) (p + 1) j (fun o _ _ ho => SL_trans ho q1) (by omega) (by omega) q1 SL_irr
      unfold rk at h
      omega
  · intro h
    exact ct_mono _ _ (fun o _ _ ho => SL_trans ho h)
/-- the row of ranks when the suffixes from q on are ranked -/
def RkRow (w : Nat → Nat) (n q : Nat) (U : Nat → Int32) : Prop := U n = (-1 : Int32) ∧ ∀ j, q ≤ j → j < n → U j = nI (rk w n q j)
theorem rk_cmp {w : Nat → Nat} {n q i j : Nat} {U : Nat → Int32} (hn : n ≤ 64) (h : RkRow w n q U) (hi : q ≤ i) (hin : i ≤ n) (hj : q ≤ j) (hjn : j ≤ n) : U j ≤ U i ↔ ¬ SL false w n i j := by
  have m1 : ((-1 : Int32)).toInt = -1 := by decide
  by_cases ei : i = n
  · subst ei
    by_cases ej : j = i
    · subst ej
      exact ⟨fun _ => SL_irr, fun _ => Int32.le_refl _⟩
    · have r1 := rk_le (w := w) (n := i) (q := q) (j := j)
      rw [h.1, h.2 j hj (by omega), Int32.le_iff_toInt_le, m1, nI_toInt (by omega)]
      exact ⟨fun hh => by omega, fun hh => absurd (Or.inr ⟨by omega, fun x hx => by omega⟩) hh⟩
  · have r1 := rk_le (w := w) (n := n) (q := q) (j := i)
    by_cases ej : j = n
    · subst ej
      rw [h.1, h.2 i hi (by omega), Int32.le_iff_toInt_le, m1, nI_toInt (by omega)]
      refine ⟨fun _ hh => ?_, fun _ => by omega⟩
      rcases hh with ⟨k, h1, h2, _⟩ | ⟨h1, h2⟩ <;> omega
    · have r2 := rk_le (w := w) (n := n) (q := q) (j := j)
      rw [h.2 i hi (by omega), h.2 j hj (by omega), nI_leI (by omega) (by omega), ← rk_iff hi (by omega) hj (by omega)]
      omega
theorem isLess_nI {N n p o : Nat} {Tn : Int32} {w : Nat → Nat} {Ta U : Nat → Int32} (h : Rp n w Ta) (hU : RkRow w n (p + 1) U) (hp : p < o) (ho : o < n) : fX7_isLess N Tn Ta U (nI o) (nI p) = some (pI (SL false w n o p)) := by
  have hn := h.le
  have b1 := h.b ho
  have b2 := h.b (show p < n by omega)
  unfold fX7_isLess
  rw [letter_nI (by omega), bn_s, letter_nI (by omega), bn_s, h.at ho, h.at (by omega), nI_1, nI_1]
  by_cases e : w o = w p
  · rw [if_pos (by rw [e]; exact diff_0), at_nI (by omega) (by decide), bn_s, at_nI (by omega) (by decide), bn_s]
    have hc := rk_cmp (i := o + 1) (j := p + 1) hn hU (by omega) (by omega) (by omega) (by omega)
    by_cases e2 : SL false w n (o + 1) (p + 1)
    · rw [if_neg (by rw [hc]; exact fun hh => hh e2), pI_t ((SL_step ho (by omega)).mpr (Or.inr ⟨e, e2⟩))]
      rfl
    · rw [if_pos (hc.mpr e2), pI_f (fun hh => by
        rcases (SL_step ho (by omega)).mp hh with q | q
        · omega
        · exact e2 q.2)]
      rfl
  · rw [if_neg (diff_ne b1 b2 e), q_0]
    by_cases e2 : w p ≤ w o
    · rw [if_pos ((d_ge (by omega) (by omega)).mpr e2), pI_f (fun hh => by
        rcases (SL_step ho (by omega)).mp hh with q | q
        · omega
        · omega)]
      rfl
    · rw [if_neg (by rw [d_ge (by omega) (by omega)]; exact e2), pI_t ((SL_step ho (by omega)).mpr (Or.inl (by omega)))]
      rfl
theorem put1_H {N n p : Nat} {w : Nat → Nat} {Ta U : Nat → Int32} (h : Rp n w Ta) (hU : RkRow w n (p + 1) U) (hp : p < n) : ∀ d k c z, k + d = n → p < k → d < z → fX7_putInOrder_H7 N (nI n) Ta z U (nI p) (nI c) (nI k) = fX7_putInOrder_J36 N (nI n) Ta U (nI p) (nI (c + ct (fun o => SL false w n o p) k d)) := by
  have hn := h.le
  intro d
  induction d with
  | zero =>
    intro k c z hk hpk hz
    obtain ⟨z, rfl⟩ : ∃ y, z = y + 1 := ⟨z - 1, by omega⟩
    show fX7_putInOrder_B7 N _ _ _ _ _ _ _ = _
    unfold fX7_putInOrder_B7 fX2_count
    rw [bn_s, if_pos (by rw [nI_leI (by omega) (by omega)]; omega), ct_0, Nat.add_zero]
  | succ d ih =>
    intro k c z hk hpk hz
    obtain ⟨z, rfl⟩ : ∃ y, z = y + 1 := ⟨z - 1, by omega⟩
    show fX7_putInOrder_B7 N _ _ _ _ _ _ _ = _
    unfold fX7_putInOrder_B7 fX2_count fX7_putInOrder_J30
    rw [bn_s, if_neg (by rw [nI_leI (by omega) (by omega)]; omega), isLess_nI h hU hpk (by omega), bn_s, nI_1 k]
    by_cases e : SL false w n k p
    · rw [if_neg (by rw [pI_z]; exact fun hh => hh e), nI_1, ih (k + 1) (c + 1) z (by omega) (by omega) (by omega), ct_t (P := fun o => SL false w n o p) e, Nat.add_assoc]
    · rw [if_pos (by rw [pI_z]; exact e), ih (k + 1) c z (by omega) (by omega) (by omega), ct_f (P := fun o => SL false w n o p) e]
theorem put2_H {N n p : Nat} {w : Nat → Nat} {Ta : Nat → Int32} (hn : n ≤ 64) (hp : p < n) : ∀ d k z (U : Nat → Int32), k + d = n → p < k → d < z → U n = (-1 : Int32) → (∀ j, k ≤ j → j < n → U j = nI (rk w n (p + 1) j)) → (∀ j, p < j → j < k → U j = nI (rk w n p j)) → ∃ V, fX7_putInOrder_H41 N (nI n) Ta z U (nI p) (nI (rk w n p p)) (nI k) = some V ∧ RkRow w n p V := by
  intro d
  induction d with
  | zero =>
    intro k z U hk hpk hz h0 h1 h2
    obtain ⟨z, rfl⟩ : ∃ y, z = y + 1 := ⟨z - 1, by omega⟩
    refine ⟨upd U p (nI (rk w n p p)), ?_, (pk_un (by omega)).trans h0, fun j g1 g2 => ?_⟩
    · show fX7_putInOrder_B41 N _ _ _ _ _ _ _ = _
      unfold fX7_putInOrder_B41 fX2_count
      rw [bn_s, if_pos (by rw [nI_leI (by omega) (by omega)]; omega)]
      unfold fX7_putInOrder_J89
      rw [put_nI (by omega) (by decide), bn_s]
    · by_cases e : j = p
      · rw [e, pk_us]
      · rw [pk_un e]; exact h2 j (by omega) (by omega)
  | succ d ih =>
    intro k z U hk hpk hz h0 h1 h2
    obtain ⟨z, rfl⟩ : ∃ y, z = y + 1 := ⟨z - 1, by omega⟩
    have r1 := rk_le (w := w) (n := n) (q := p) (j := p)
    have r2 := rk_le (w := w) (n := n) (q := p + 1) (j := k)
    have hm := rk_more (w := w) (n := n) (p := p) (j := k) hp
    have hstep : fX7_putInOrder_H41 N (nI n) Ta (z + 1) U (nI p) (nI (rk w n p p)) (nI k) = if nI (rk w n (p + 1) k) < nI (rk w n p p) then fX7_putInOrder_H41 N (nI n) Ta z U (nI p) (nI (rk w n p p)) (nI (k + 1)) else fX7_putInOrder_H41 N (nI n) Ta z (upd U k (nI (rk w n (p + 1) k + 1))) (nI p) (nI (rk w n p p)) (nI (k + 1)) := by
      show fX7_putInOrder_B41 N _ _ _ _ _ _ _ = _
      unfold fX7_putInOrder_B41 fX2_count fX7_putInOrder_J83
      rw [bn_s, if_neg (by rw [nI_leI (by omega) (by omega)]; omega), at_nI (by omega) (by decide), bn_s, bn_s, put_nI (by omega) (by decide), bn_s, h1 k (by omega) (by omega), nI_1, nI_1]
    rw [hstep]
    by_cases e : SL false w n p k
    · have g1 := (rk_ge hpk (by omega)).mpr e
      rw [if_pos e] at hm
      rw [if_neg (by rw [nI_ltI (by omega) (by omega)]; omega)]
      refine ih (k + 1) z _ (by omega) (by omega) (by omega) ((pk_un (by omega)).trans h0) (fun j q1 q2 => (pk_un (by omega)).trans (h1 j (by omega) q2)) (fun j q1 q2 => ?_)
      by_cases e2 : j = k
      · rw [e2, pk_us, hm, Nat.add_comm]
      · rw [pk_un e2]; exact h2 j q1 (by omega)
    · have g1 : ¬ rk w n p p ≤ rk w n (p + 1) k := fun hh => e ((rk_ge hpk (by omega)).mp hh)
      rw [if_neg e, Nat.zero_add] at hm
      rw [if_pos (by rw [nI_ltI (by omega) (by omega)]; omega)]
      refine ih (k + 1) z U (by omega) (by omega) (by omega) h0 (fun j q1 q2 => h1 j (by omega) q2) (fun j q1 q2 => ?_)
      by_cases e2 : j = k
      · rw [e2, hm]; exact h1 k (by omega) (by omega)
      · exact h2 j q1 (by omega)
theorem putIn_nI {N n p : Nat} {w : Nat → Nat} {Ta U : Nat → Int32} (hN : 100 ≤ N) (h : Rp n w Ta) (hU : RkRow w n (p + 1) U) (hp : p < n) : ∃ V, fX7_putInOrder N (nI n) Ta U (nI p) = some V ∧ RkRow w n p V := by
  have hn := h.le
  obtain ⟨V, h1, h2⟩ := put2_H (N := N) (Ta := Ta) hn hp (n - (p + 1)) (p + 1) N U (by omega) (by omega) (by omega) hU.1 hU.2 (fun j q1 q2 => by omega)
  refine ⟨V, ?_, h2⟩
  unfold fX7_putInOrder
  rw [nI_1, q_0, put1_H h hU hp (n - (p + 1)) (p + 1) 0 N (by omega) (by omega) (by omega), Nat.zero_add, ← rk_self hp]
  unfold fX7_putInOrder_J36
  rw [nI_1]
  exact h1
theorem sfind_H {N n : Nat} {w : Nat → Nat} {Ta : Nat → Int32} (hN : 100 ≤ N) (h : Rp n w Ta) : ∀ k z (U : Nat → Int32), k ≤ n → k < z → RkRow w n k U → ∃ V, fX7_find_H19 N (nI n) Ta z U (nI k - nI 1) = some V ∧ RkRow w n 0 V := by
  have hn := h.le
  intro k
  induction k with
  | zero =>
    intro z U hk hz hU
    obtain ⟨z, rfl⟩ : ∃ y, z = y + 1 := ⟨z - 1, by omega⟩
    refine ⟨U, ?_, hU⟩
    show fX7_find_B19 N _ _ _ _ _ = _
    unfold fX7_find_B19
    rw [if_pos (by decide)]
    rfl
  | succ k ih =>
    intro z U hk hz hU
    obtain ⟨z, rfl⟩ : ∃ y, z = y + 1 := ⟨z - 1, by omega⟩
    obtain ⟨V, h1, h2⟩ := putIn_nI hN h hU (by omega)
    obtain ⟨V2, h3, h4⟩ := ih z V (by omega) (by omega) h2
    refine ⟨V2, ?_, h4⟩
    show fX7_find_B19 N _ _ _ _ _ = _
    unfold fX7_find_B19
    rw [q_sub (by omega), show k + 1 - 1 = k from rfl, if_neg (nI_pos (by omega)), h1, bn_s]
    have : nI k + (-1 : Int32) = nI k - nI 1 := by rw [Int32.sub_eq_add_neg]; rfl
    rw [this]
    exact h3
theorem sfind_nI {N n : Nat} {w : Nat → Nat} {Ta : Nat → Int32} (hN : 100 ≤ N) (h : Rp n w Ta) (U : Nat → Int32) : ∃ V, fX7_find N (nI n) Ta U = some V ∧ RkRow w n 0 V := by
  have hn := h.le
  obtain ⟨V, h1, h2⟩ := sfind_H hN h n N (upd U n (-1 : Int32)) (Nat.le_refl n) (by omega) ⟨pk_us, fun j q1 q2 => by omega⟩
  refine ⟨V, ?_, h2⟩
  unfold fX7_find fX2_count
  rw [bn_s, put_nI (by omega) (by decide), bn_s, bn_s]
  exact h1
theorem sufC_H {N n r : Nat} {w : Nat → Nat} {Ta V : Nat → Int32} (hn : n ≤ 64) (hV : RkRow w n 0 V) (hr : r < n) : ∀ d k z, k + d + 1 = n → d < z → fX8_suffixAt_H24 N (nI n) Ta z V (nI r) (nI k) = some (.inr (nI (lf (fun p => rk w n 0 p = r) k d), V)) := by
  intro d
  induction d with
  | zero =>
    intro k z hk hz
    obtain ⟨z, rfl⟩ : ∃ y, z = y + 1 := ⟨z - 1, by omega⟩
    show fX8_suffixAt_B24 N _ _ _ _ _ _ = _
    unfold fX8_suffixAt_B24 fX2_count
    rw [bn_s, q_1, q_sub (by omega), if_pos (by rw [nI_leI (by omega) (by omega)]; omega), lf_0]
    rfl
  | succ d ih =>
    intro k z hk hz
    obtain ⟨z, rfl⟩ : ∃ y, z = y + 1 := ⟨z - 1, by omega⟩
    have r1 := rk_le (w := w) (n := n) (q := 0) (j := k)
    show fX8_suffixAt_B24 N _ _ _ _ _ _ = _
    unfold fX8_suffixAt_B24 fX2_count fX7_rank
    rw [bn_s, q_1, q_sub (by omega), if_neg (by rw [nI_leI (by omega) (by omega)]; omega), at_nI (by omega) (by decide), bn_s, bn_s, hV.2 k (by omega) (by omega), nI_add]
    by_cases e : rk w n 0 k = r
    · rw [if_pos (by rw [e]), lf_t (P := fun p => rk w n 0 p = r) e]; rfl
    · rw [if_neg (by rw [nI_eq (by omega) (by omega)]; exact e), lf_f (P := fun p => rk w n 0 p = r) e]
      exact ih (k + 1) z (by omega) (by omega)
